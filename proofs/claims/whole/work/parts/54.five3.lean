def cFl (F : Nat → Int32) : Nat → Int32
  | 0 => 0
  | k + 1 => cFl F k + F k
def cDs (R F Q : Nat → Int32) (h : Int64) : Nat → Int64
  | 0 => h
  | k + 1 => dh (dh (cDs R F Q h k) (R k - F k)) (Q k)
def cDr (N O Q P Hm Wd : Nat → Int32) (h : Int64) : Nat → Int64
  | 0 => h
  | r + 1 => dh (dh (dh (dh (dh (cDr N O Q P Hm Wd h r) (Wd r)) (P r)) (Hm r)) (sHf N O r)) (cWalk Q P Hm r)
theorem hdX1_put : yX1_put.cls = RX1 ∧ yX1_put.cls ≠ "java/lang/invoke/MethodHandle" ∧ yX1_put.cls ≠ "java/lang/invoke/VarHandle" ∧ (parseMethodDescriptor yX1_put.desc).map (fun d => d.parameters.length) = some 1 := by decide +kernel
set_option maxHeartbeats 4000000 in
set_option maxRecDepth 100000 in
theorem kX5_append (l : Launch) (dC : Nat → ClassId) (dI : Nat → Nat → Nat) (cI cV cW : ClassId) (wa sw : Nat) (ad aK aV : Nat → Nat) (sa : Nat → Nat) (hlt : l.stackTraces = false) (sz : Nat) (v : Nat) (h : Nat) (g : Nat) (bs : Nat) (x : Nat) (sv : Nat) (sn : Int32) (xS : Nat) (xW : Nat) (xN : Nat) (xH : Nat) (nn : Nat) (od : Int32) (po : Int32) (B0 : Nat → Int32) (y : Int32) (hnn : nn ≤ 60) : vx_Met l yX5_append wsX5_append ({ frames := 6, cells := 2, slots := 12, locals := 100 }) (pWx sa wa sw ad aK aV (dC, dI) (tyS cI cV cW) sz [.ref v, .int y] [(v, .inr (3, [.ref h, .ref g, .ref bs, .ref x, .ref sv, .int sn])), (x, .inr (0, [.ref xS, .ref xW, .ref xN, .ref xH, .int (nI nn), .int od, .int po])), (xS, .inl (cI, 60, .inl B0))]) (va_Qi (fun (r_ : Int32) (_ : Unit) => r_ = nI (nn + 1) ∧ cdApp nn y = 0) (fun (_ : Unit) t => qB (dC, dI) (tyS cI cV cW) (va_A [(v, .inr (3, [.ref h, .ref g, .ref bs, .ref x, .ref sv, .int sn])), (x, .inr (0, [.ref xS, .ref xW, .ref xN, .ref xH, .int (nI nn), .int od, .int po])), (xS, .inl (cI, 60, .inl B0))] sz) [(v, .inr (3, [.ref h, .ref g, .ref bs, .ref x, .ref sv, .int sn])), (x, .inr (0, [.ref xS, .ref xW, .ref xN, .ref xH, .int (nI (nn + 1)), .int od, .int po])), (xS, .inl (cI, 60, .inl (upd B0 nn y)))] t) (va_A [(v, .inr (3, [.ref h, .ref g, .ref bs, .ref x, .ref sv, .int sn])), (x, .inr (0, [.ref xS, .ref xW, .ref xN, .ref xH, .int (nI nn), .int od, .int po])), (xS, .inl (cI, 60, .inl B0))] sz)) (vx_X (fun (_ : Unit) => True) (fun (E9 : String) _ t => ((E9 = eA ∧ cdApp nn y = 1) ∨ (E9 = eS ∧ cdApp nn y = 2)) ∧ qB (dC, dI) (tyS cI cV cW) (va_A [(v, .inr (3, [.ref h, .ref g, .ref bs, .ref x, .ref sv, .int sn])), (x, .inr (0, [.ref xS, .ref xW, .ref xN, .ref xH, .int (nI nn), .int od, .int po])), (xS, .inl (cI, 60, .inl B0))] sz) [(v, .inr (3, [.ref h, .ref g, .ref bs, .ref x, .ref sv, .int sn])), (x, .inr (0, [.ref xS, .ref xW, .ref xN, .ref xH, .int (nI nn), .int od, .int po])), (xS, .inl (cI, 60, .inl B0))] t) (va_A [(v, .inr (3, [.ref h, .ref g, .ref bs, .ref x, .ref sv, .int sn])), (x, .inr (0, [.ref xS, .ref xW, .ref xN, .ref xH, .int (nI nn), .int od, .int po])), (xS, .inl (cI, 60, .inl B0))] sz)) 2 12 (va_A [(v, .inr (3, [.ref h, .ref g, .ref bs, .ref x, .ref sv, .int sn])), (x, .inr (0, [.ref xS, .ref xW, .ref xN, .ref xH, .int (nI nn), .int od, .int po])), (xS, .inl (cI, 60, .inl B0))] sz) := by
  refine vx_ofW (cc := cX5_append) (maxL := 2) (ret := (some .int)) (by decide) rfl ?_
  intro p e s m args below meth c s₁ B hml hno hv
  obtain ⟨rfl, hsz, hP, hK, hD0, hIm, hNw, hXm⟩ := hv
  have hx := B.exec
  have hb := B.bytes
  have hr := B.returns
  have hts := atoms_spec (ws := wsX5_append) B.pre
  have hown : s.vm.findClass RX5 = some m.cls := findClass_of_methodNamed B.named
  have hlocks := B.notSynchronized
  subst hsz
  have hD := hD0.self (sz := s.heap.size)
  generalize hAe : va_A [(v, .inr (3, [.ref h, .ref g, .ref bs, .ref x, .ref sv, .int sn])), (x, .inr (0, [.ref xS, .ref xW, .ref xN, .ref xH, .int (nI nn), .int od, .int po])), (xS, .inl (cI, 60, .inl B0))] s.heap.size = A at hD hIm hXm ⊢
  have hA : ∀ q : Nat, s.heap.size ≤ q → A q := fun q h => by rw [← hAe]; exact Or.inr h
  have hS : va_S A s.heap s.heap [] := va_S.rf
  refine w_gen hP hS (fun H locs hP hS => ?_)
  have hf29 := hts (.fieldLink RX5 29 "VaultShelves" "text" "LVaultShelves$OrderText;") (by decide +kernel)
  have hf164 := hts (.fieldLink RX5 164 "VaultShelves$OrderText" "length" "I") (by decide +kernel)
  have hiX1 : ∀ w ∈ u_ws RX1 TX1 7, w ∈ wsX5_append := by decide +kernel
  have hiX5 : ∀ w ∈ u_ws RX5 TX5 6, w ∈ wsX5_append := by decide +kernel
  have hl := lv_entry ([.ref v, .int y]) (n := 2) (Nat.le_of_ble_eq_true rfl)
  rw [lg_entry_eq]
  generalize (lg_sl ([.ref v, .int y]) ++ List.replicate (2 - (lg_sl ([.ref v, .int y])).length) Slot.unset).toArray = ls at hl ⊢
  replace hl : lv_has ls 2 [(0, .ref v), (1, .int y)] := hl
  refine lv_iload_n hx hb dX5_append_0 rfl (lv_at hl 1 rfl) ?_
  refine lv_bipush (v := (nI 33)) hx hb dX5_append_1 (by decide) ?_
  refine lv_icmp_lt (tgt := 12) hx hb dX5_append_3 (by decide) (fun c_3 => ?_) (fun c_3 => ?_)
  · exact vx_throwS (cls := eA) (text := "the code is not 33 to 126") (names := eNs) (ik := 41) (is := 162) (ic := 45) (sa := sa 162) hx hb hlt hown fitE.2.1 fitE.2.2.2 (hts (.classLink RX5 41 eA) (by decide +kernel)) (hts (.initialized eA) (by decide +kernel)) (hXm.2.2 (162, "the code is not 33 to 126") (by decide +kernel)) (vx_hat (fun w hw => hts w ((by decide +kernel : ∀ w ∈ (vx_atS RX5 45 eA eNs).filter goodWord, w ∈ wsX5_append) w hw)) nwE_A hXm.1.use) (otE_A 41) hXm.2.1.1 hXm.2.1.2 hS (hl.1.trans hml.symm) dX5_append_12 dX5_append_15 dX5_append_16 dX5_append_18 dX5_append_21 (fun x hx9 => (hno x hx9).elim) (by decide) (by decide) (by decide) (by decide) hlocks (fun t ha_ hs_ hq_ => ⟨(), trivial, ⟨(Or.inl ⟨rfl, by rw [cdApp, show sIn y 33 126 = false from rw_f (Or.inl c_3)]; rfl⟩), xP hP hq_, va_K.moved ha_ hK, hD⟩, xF hS hs_ hq_⟩) hS.2.2 (by decide) (by decide)
  · refine lv_iload_n hx hb dX5_append_6 rfl (lv_at hl 1 rfl) ?_
    refine lv_bipush (v := (nI 126)) hx hb dX5_append_7 (by decide) ?_
    refine lv_icmp_le (tgt := 22) hx hb dX5_append_9 (by decide) (fun c_9 => ?_) (fun c_9 => ?_)
    · refine lv_aload_n hx hb dX5_append_22 rfl (lv_at hl 0 rfl) ?_
      refine va_get (D := (dC, dI)) (ci := 3) (v := .ref x) (C := RX5) (T := TX5) (N := 6) hx hb hts hiX5 hown hK hP 0 rfl rfl 3 (by decide) hf29 (fun _ h9 => h9) rfl dX5_append_23 ?_
      refine va_get (D := (dC, dI)) (ci := 0) (v := .int (nI nn)) (C := RX1) (T := TX1) (N := 7) hx hb hts hiX1 hown hK hP 1 rfl rfl 4 (by decide) hf164 (fun _ h9 => h9) rfl dX5_append_26 ?_
      refine lv_bipush (v := (nI 60)) hx hb dX5_append_29 (by decide) ?_
      refine n_icmp_lt (tgt := 44) hx hb dX5_append_31 (by decide) (by omega) (by omega) (fun c_31 => ?_) (fun c_31 => ?_)
      · refine lv_aload_n hx hb dX5_append_44 rfl (lv_at hl 0 rfl) ?_
        refine va_get (D := (dC, dI)) (ci := 3) (v := .ref x) (C := RX5) (T := TX5) (N := 6) hx hb hts hiX5 hown hK hP 0 rfl rfl 3 (by decide) hf29 (fun _ h9 => h9) rfl dX5_append_45 ?_
        refine lv_iload_n hx hb dX5_append_48 rfl (lv_at hl 1 rfl) ?_
        have hPc := hP.sub (ws' := [(x, .inr (0, [.ref xS, .ref xW, .ref xN, .ref xH, .int (nI nn), .int od, .int po])), (xS, .inl (cI, 60, .inl B0))]) [1, 2] rfl
        have hDc := hD.sub (ws' := [(x, .inr (0, [.ref xS, .ref xW, .ref xN, .ref xH, .int (nI nn), .int od, .int po])), (xS, .inl (cI, 60, .inl B0))]) [1, 2] (by decide) rfl
        have hFc := va_free (wc := [(x, .inr (0, [.ref xS, .ref xW, .ref xN, .ref xH, .int (nI nn), .int od, .int po])), (xS, .inl (cI, 60, .inl B0))]) hD hS hA [1, 2] rfl
        refine va_calli (va_runV (As := [.int y]) (rest := []) ⟨hx, hb, hml, hown, hts⟩ (kX1_put l dC dI cI cV cW H.size x xS xW xN xH nn od po B0 y (by omega)) (cwV 1 hts gX5_append_X1_put rfl rfl rfl hdX1_put ⟨Nat.le_of_ble_eq_true rfl, Nat.le_of_ble_eq_true rfl⟩) (pW_V hK hP hPc hDc 1 0 rfl rfl rfl) rfl rfl hl.1 rfl (lv_room (Nat.le_of_ble_eq_true rfl)) dX5_append_49 ⟨Nat.le_of_ble_eq_true rfl, Nat.le_of_ble_eq_true rfl⟩) hS (fun q _ h => hFc q h) hFc (fun r_49 u_ t_ H1 locs ht_ hvm_ hw_ hB_ hz_ hk_ hS => ?_)
        obtain ⟨hP1, -, hD1⟩ := hB_
        rw [ht_] at hP1
        obtain ⟨hP, hD⟩ := va_join (wr := [(v, .inr (3, [.ref h, .ref g, .ref bs, .ref x, .ref sv, .int sn]))]) (w1 := [(x, .inr (0, [.ref xS, .ref xW, .ref xN, .ref xH, .int (nI (nn + 1)), .int od, .int po])), (xS, .inl (cI, 60, .inl (upd B0 nn y)))]) hP hD [1, 2] [0] rfl rfl (by decide) (by decide) hk_ hFc hP1 hD1
        clear hP1 hD1 hPc hDc hFc hk_ hz_ hvm_ ht_
        generalize H1 = H at hP hS ⊢
        replace hP : va_P (dC, dI) vwCl [(v, .inr (3, [.ref h, .ref g, .ref bs, .ref x, .ref sv, .int sn])), (x, .inr (0, [.ref xS, .ref xW, .ref xN, .ref xH, .int (nI (nn + 1)), .int od, .int po])), (xS, .inl (cI, 60, .inl (upd B0 nn y)))] H := hP
        replace hD : va_D A [(v, .inr (3, [.ref h, .ref g, .ref bs, .ref x, .ref sv, .int sn])), (x, .inr (0, [.ref xS, .ref xW, .ref xN, .ref xH, .int (nI (nn + 1)), .int od, .int po])), (xS, .inl (cI, 60, .inl (upd B0 nn y)))] := hD
        refine W.widen (k := 0) (n := 0) (by decide) (by decide) ?_
        have hw_ : r_49 = (nI (nn + 1)) := hw_
        subst hw_
        have hP9 := hP
        have hD9 := hD
        refine W.widen (k := 2) (n := 12) (by decide) (by decide) ?_
        refine vx_ret ?_
        exact W.iret (v := (nI (nn + 1))) hx hb hr (fun t ht hW => ⟨⟨(nI (nn + 1)), (), rfl, (by exact ⟨rfl, by rw [cdApp, if_pos (show sIn y 33 126 = true from rw_t c_3 c_9), if_neg (by omega)]⟩), by rw [ht]; exact hP9, va_K.moved hW.alike hK, hD9⟩, hS.F ht⟩) hS.2.2 dX5_append_52
      · exact vx_throwS (cls := eS) (text := "the buffer is full") (names := eNs) (ik := 54) (is := 167) (ic := 58) (sa := sa 167) hx hb hlt hown fitE.2.2.1 fitE.2.2.2 (hts (.classLink RX5 54 eS) (by decide +kernel)) (hts (.initialized eS) (by decide +kernel)) (hXm.2.2 (167, "the buffer is full") (by decide +kernel)) (vx_hat (fun w hw => hts w ((by decide +kernel : ∀ w ∈ (vx_atS RX5 58 eS eNs).filter goodWord, w ∈ wsX5_append) w hw)) nwE_S hXm.1.use) (otE_S 54) hXm.2.1.1 hXm.2.1.2 hS (hl.1.trans hml.symm) dX5_append_34 dX5_append_37 dX5_append_38 dX5_append_40 dX5_append_43 (fun x hx9 => (hno x hx9).elim) (by decide) (by decide) (by decide) (by decide) hlocks (fun t ha_ hs_ hq_ => ⟨(), trivial, ⟨(Or.inr ⟨rfl, by rw [cdApp, if_pos (show sIn y 33 126 = true from rw_t c_3 c_9), if_pos (by omega)]⟩), xP hP hq_, va_K.moved ha_ hK, hD⟩, xF hS hs_ hq_⟩) hS.2.2 (by decide) (by decide)
    · exact vx_throwS (cls := eA) (text := "the code is not 33 to 126") (names := eNs) (ik := 41) (is := 162) (ic := 45) (sa := sa 162) hx hb hlt hown fitE.2.1 fitE.2.2.2 (hts (.classLink RX5 41 eA) (by decide +kernel)) (hts (.initialized eA) (by decide +kernel)) (hXm.2.2 (162, "the code is not 33 to 126") (by decide +kernel)) (vx_hat (fun w hw => hts w ((by decide +kernel : ∀ w ∈ (vx_atS RX5 45 eA eNs).filter goodWord, w ∈ wsX5_append) w hw)) nwE_A hXm.1.use) (otE_A 41) hXm.2.1.1 hXm.2.1.2 hS (hl.1.trans hml.symm) dX5_append_12 dX5_append_15 dX5_append_16 dX5_append_18 dX5_append_21 (fun x hx9 => (hno x hx9).elim) (by decide) (by decide) (by decide) (by decide) hlocks (fun t ha_ hs_ hq_ => ⟨(), trivial, ⟨(Or.inl ⟨rfl, by rw [cdApp, show sIn y 33 126 = false from rw_f (Or.inr (Int32.not_le.mp c_9))]; rfl⟩), xP hP hq_, va_K.moved ha_ hK, hD⟩, xF hS hs_ hq_⟩) hS.2.2 (by decide) (by decide)
theorem hdX1_wipe : yX1_wipe.cls = RX1 ∧ yX1_wipe.cls ≠ "java/lang/invoke/MethodHandle" ∧ yX1_wipe.cls ≠ "java/lang/invoke/VarHandle" ∧ (parseMethodDescriptor yX1_wipe.desc).map (fun d => d.parameters.length) = some 0 := by decide +kernel
set_option maxHeartbeats 4000000 in
set_option maxRecDepth 100000 in
theorem kX5_clearText (l : Launch) (dC : Nat → ClassId) (dI : Nat → Nat → Nat) (cI cV cW : ClassId) (sz : Nat) (v : Nat) (h : Nat) (g : Nat) (bs : Nat) (x : Nat) (sv : Nat) (sn : Int32) (xS : Nat) (xW : Nat) (xN : Nat) (xH : Nat) (le : Int32) (od : Int32) (po : Int32)  : Met l yX5_clearText wsX5_clearText ({ frames := 1, cells := 0, slots := 0, locals := 21 }) (pW (dC, dI) (tyS cI cV cW) sz [.ref v] [(v, .inr (3, [.ref h, .ref g, .ref bs, .ref x, .ref sv, .int sn])), (x, .inr (0, [.ref xS, .ref xW, .ref xN, .ref xH, .int le, .int od, .int po]))]) (va_Qi (fun (r_ : Int32) (_ : Unit) => r_ = le) (fun (_ : Unit) t => qB (dC, dI) (tyS cI cV cW) (va_A [(v, .inr (3, [.ref h, .ref g, .ref bs, .ref x, .ref sv, .int sn])), (x, .inr (0, [.ref xS, .ref xW, .ref xN, .ref xH, .int le, .int od, .int po]))] sz) [(v, .inr (3, [.ref h, .ref g, .ref bs, .ref x, .ref sv, .int sn])), (x, .inr (0, [.ref xS, .ref xW, .ref xN, .ref xH, .int (nI 0), .int od, .int po]))] t) (va_A [(v, .inr (3, [.ref h, .ref g, .ref bs, .ref x, .ref sv, .int sn])), (x, .inr (0, [.ref xS, .ref xW, .ref xN, .ref xH, .int le, .int od, .int po]))] sz)) 0 0 (va_A [(v, .inr (3, [.ref h, .ref g, .ref bs, .ref x, .ref sv, .int sn])), (x, .inr (0, [.ref xS, .ref xW, .ref xN, .ref xH, .int le, .int od, .int po]))] sz) := by
  refine Met.ofW (cc := cX5_clearText) (maxL := 1) (ret := (some .int)) (by decide) rfl ?_
  intro p e s m args below meth c s₁ B hml hv
  obtain ⟨rfl, hsz, hP, hK, hD0⟩ := hv
  have hx := B.exec
  have hb := B.bytes
  have hr := B.returns
  have hts := atoms_spec (ws := wsX5_clearText) B.pre
  have hown : s.vm.findClass RX5 = some m.cls := findClass_of_methodNamed B.named
  have hlocks := B.notSynchronized
  subst hsz
  have hD := hD0.self (sz := s.heap.size)
  generalize hAe : va_A [(v, .inr (3, [.ref h, .ref g, .ref bs, .ref x, .ref sv, .int sn])), (x, .inr (0, [.ref xS, .ref xW, .ref xN, .ref xH, .int le, .int od, .int po]))] s.heap.size = A at hD ⊢
  have hA : ∀ q : Nat, s.heap.size ≤ q → A q := fun q h => by rw [← hAe]; exact Or.inr h
  have hS : va_S A s.heap s.heap [] := va_S.rf
  refine w_gen hP hS (fun H locs hP hS => ?_)
  have hf29 := hts (.fieldLink RX5 29 "VaultShelves" "text" "LVaultShelves$OrderText;") (by decide +kernel)
  have hiX1 : ∀ w ∈ u_ws RX1 TX1 7, w ∈ wsX5_clearText := by decide +kernel
  have hiX5 : ∀ w ∈ u_ws RX5 TX5 6, w ∈ wsX5_clearText := by decide +kernel
  have hl := lv_entry ([.ref v]) (n := 1) (Nat.le_of_ble_eq_true rfl)
  rw [lg_entry_eq]
  generalize (lg_sl ([.ref v]) ++ List.replicate (1 - (lg_sl ([.ref v])).length) Slot.unset).toArray = ls at hl ⊢
  replace hl : lv_has ls 1 [(0, .ref v)] := hl
  refine lv_aload_n hx hb dX5_clearText_0 rfl (lv_at hl 0 rfl) ?_
  refine va_get (D := (dC, dI)) (ci := 3) (v := .ref x) (C := RX5) (T := TX5) (N := 6) hx hb hts hiX5 hown hK hP 0 rfl rfl 3 (by decide) hf29 (fun _ h9 => h9) rfl dX5_clearText_1 ?_
  have hPc := hP.sub (ws' := [(x, .inr (0, [.ref xS, .ref xW, .ref xN, .ref xH, .int le, .int od, .int po]))]) [1] rfl
  have hDc := hD.sub (ws' := [(x, .inr (0, [.ref xS, .ref xW, .ref xN, .ref xH, .int le, .int od, .int po]))]) [1] (by decide) rfl
  have hFc := va_free (wc := [(x, .inr (0, [.ref xS, .ref xW, .ref xN, .ref xH, .int le, .int od, .int po]))]) hD hS hA [1] rfl
  refine va_calli (va_runV (As := []) (rest := []) ⟨hx, hb, hml, hown, hts⟩ (kX1_wipe l dC dI cI cV cW H.size x xS xW xN xH le od po) (cwV 0 hts gX5_clearText_X1_wipe rfl rfl rfl hdX1_wipe ⟨Nat.le_of_ble_eq_true rfl, Nat.le_of_ble_eq_true rfl⟩) (pW_V hK hP hPc hDc 1 0 rfl rfl rfl) rfl rfl hl.1 rfl (lv_room (Nat.le_of_ble_eq_true rfl)) dX5_clearText_4 ⟨Nat.zero_le _, Nat.zero_le _⟩) hS (fun q _ h => hFc q h) hFc (fun r_4 u_ t_ H1 locs ht_ hvm_ hw_ hB_ hz_ hk_ hS => ?_)
  obtain ⟨hP1, -, hD1⟩ := hB_
  rw [ht_] at hP1
  obtain ⟨hP, hD⟩ := va_join (wr := [(v, .inr (3, [.ref h, .ref g, .ref bs, .ref x, .ref sv, .int sn]))]) (w1 := [(x, .inr (0, [.ref xS, .ref xW, .ref xN, .ref xH, .int (nI 0), .int od, .int po]))]) hP hD [1] [0] rfl rfl (by decide) (by decide) hk_ hFc hP1 hD1
  clear hP1 hD1 hPc hDc hFc hk_ hz_ hvm_ ht_
  generalize H1 = H at hP hS ⊢
  replace hP : va_P (dC, dI) vwCl [(v, .inr (3, [.ref h, .ref g, .ref bs, .ref x, .ref sv, .int sn])), (x, .inr (0, [.ref xS, .ref xW, .ref xN, .ref xH, .int (nI 0), .int od, .int po]))] H := hP
  replace hD : va_D A [(v, .inr (3, [.ref h, .ref g, .ref bs, .ref x, .ref sv, .int sn])), (x, .inr (0, [.ref xS, .ref xW, .ref xN, .ref xH, .int (nI 0), .int od, .int po]))] := hD
  refine W.widen (k := 0) (n := 0) (by decide) (by decide) ?_
  have hw_ : r_4 = le := hw_
  subst r_4
  have hP9 := hP
  have hD9 := hD
  exact W.iret (v := le) hx hb hr (fun t ht hW => ⟨⟨le, (), rfl, rfl, by rw [ht]; exact hP9, va_K.moved hW.alike hK, hD9⟩, hS.F ht⟩) hS.2.2 dX5_clearText_7
theorem hdX1_readOrders : yX1_readOrders.cls = RX1 ∧ yX1_readOrders.cls ≠ "java/lang/invoke/MethodHandle" ∧ yX1_readOrders.cls ≠ "java/lang/invoke/VarHandle" ∧ (parseMethodDescriptor yX1_readOrders.desc).map (fun d => d.parameters.length) = some 0 := by decide +kernel
set_option maxHeartbeats 4000000 in
set_option maxRecDepth 100000 in
theorem kX5_firstError (l : Launch) (dC : Nat → ClassId) (dI : Nat → Nat → Nat) (cI cV cW : ClassId) (wa sw : Nat) (ad aK aV : Nat → Nat) (sz : Nat) (v : Nat) (h : Nat) (g : Nat) (bs : Nat) (x : Nat) (sv : Nat) (sn : Int32) (xS : Nat) (xW : Nat) (xN : Nat) (xH : Nat) (nn : Nat) (od : Int32) (po : Int32) (B0 : Nat → Int32) (Wr : Nat → Option Nat) (Nm : Nat → Int32) (Sh : Nat → Int32) (hnn : nn ≤ 60) : Met l yX5_firstError wsX5_firstError ({ frames := 8, cells := 0, slots := 0, locals := 174 }) (pWi wa sw ad aK aV (dC, dI) (tyS cI cV cW) sz [.ref v] [(v, .inr (3, [.ref h, .ref g, .ref bs, .ref x, .ref sv, .int sn])), (x, .inr (0, [.ref xS, .ref xW, .ref xN, .ref xH, .int (nI nn), .int od, .int po])), (xS, .inl (cI, 60, .inl B0)), (xW, .inl (cW, 60, .inr (.inr (.inr (.inr Wr))))), (xN, .inl (cI, 60, .inl Nm)), (xH, .inl (cI, 60, .inl Sh))]) (va_Qi (fun (r_ : Int32) (_ : Unit) => r_ = (nI ((cLp ad B0 nn 60 0 ((true, 0), Wr, Nm, Sh)).1.1.2))) (fun (_ : Unit) t => qB (dC, dI) (tyS cI cV cW) (va_A [(v, .inr (3, [.ref h, .ref g, .ref bs, .ref x, .ref sv, .int sn])), (x, .inr (0, [.ref xS, .ref xW, .ref xN, .ref xH, .int (nI nn), .int od, .int po])), (xS, .inl (cI, 60, .inl B0)), (xW, .inl (cW, 60, .inr (.inr (.inr (.inr Wr))))), (xN, .inl (cI, 60, .inl Nm)), (xH, .inl (cI, 60, .inl Sh))] sz) [(v, .inr (3, [.ref h, .ref g, .ref bs, .ref x, .ref sv, .int sn])), (x, .inr (0, [.ref xS, .ref xW, .ref xN, .ref xH, .int (nI nn), .int (nI ((cLp ad B0 nn 60 0 ((true, 0), Wr, Nm, Sh)).2)), .int (nI ((cLp ad B0 nn 60 0 ((true, 0), Wr, Nm, Sh)).1.1.2))])), (xS, .inl (cI, 60, .inl B0)), (xW, .inl (cW, 60, .inr (.inr (.inr (.inr ((cLp ad B0 nn 60 0 ((true, 0), Wr, Nm, Sh)).1.2.1)))))), (xN, .inl (cI, 60, .inl ((cLp ad B0 nn 60 0 ((true, 0), Wr, Nm, Sh)).1.2.2.1))), (xH, .inl (cI, 60, .inl ((cLp ad B0 nn 60 0 ((true, 0), Wr, Nm, Sh)).1.2.2.2)))] t) (va_A [(v, .inr (3, [.ref h, .ref g, .ref bs, .ref x, .ref sv, .int sn])), (x, .inr (0, [.ref xS, .ref xW, .ref xN, .ref xH, .int (nI nn), .int od, .int po])), (xS, .inl (cI, 60, .inl B0)), (xW, .inl (cW, 60, .inr (.inr (.inr (.inr Wr))))), (xN, .inl (cI, 60, .inl Nm)), (xH, .inl (cI, 60, .inl Sh))] sz)) 0 0 (va_A [(v, .inr (3, [.ref h, .ref g, .ref bs, .ref x, .ref sv, .int sn])), (x, .inr (0, [.ref xS, .ref xW, .ref xN, .ref xH, .int (nI nn), .int od, .int po])), (xS, .inl (cI, 60, .inl B0)), (xW, .inl (cW, 60, .inr (.inr (.inr (.inr Wr))))), (xN, .inl (cI, 60, .inl Nm)), (xH, .inl (cI, 60, .inl Sh))] sz) := by
  refine Met.ofW (cc := cX5_firstError) (maxL := 1) (ret := (some .int)) (by decide) rfl ?_
  intro p e s m args below meth c s₁ B hml hv
  obtain ⟨rfl, hsz, hP, hK, hD0, hIm, hNw⟩ := hv
  have hx := B.exec
  have hb := B.bytes
  have hr := B.returns
  have hts := atoms_spec (ws := wsX5_firstError) B.pre
  have hown : s.vm.findClass RX5 = some m.cls := findClass_of_methodNamed B.named
  have hlocks := B.notSynchronized
  subst hsz
  have hD := hD0.self (sz := s.heap.size)
  generalize hAe : va_A [(v, .inr (3, [.ref h, .ref g, .ref bs, .ref x, .ref sv, .int sn])), (x, .inr (0, [.ref xS, .ref xW, .ref xN, .ref xH, .int (nI nn), .int od, .int po])), (xS, .inl (cI, 60, .inl B0)), (xW, .inl (cW, 60, .inr (.inr (.inr (.inr Wr))))), (xN, .inl (cI, 60, .inl Nm)), (xH, .inl (cI, 60, .inl Sh))] s.heap.size = A at hD hIm ⊢
  have hA : ∀ q : Nat, s.heap.size ≤ q → A q := fun q h => by rw [← hAe]; exact Or.inr h
  have hS : va_S A s.heap s.heap [] := va_S.rf
  refine w_gen hP hS (fun H locs hP hS => ?_)
  have hf29 := hts (.fieldLink RX5 29 "VaultShelves" "text" "LVaultShelves$OrderText;") (by decide +kernel)
  have hf179 := hts (.fieldLink RX5 179 "VaultShelves$OrderText" "position" "I") (by decide +kernel)
  have hiX1 : ∀ w ∈ u_ws RX1 TX1 7, w ∈ wsX5_firstError := by decide +kernel
  have hiX5 : ∀ w ∈ u_ws RX5 TX5 6, w ∈ wsX5_firstError := by decide +kernel
  have hl := lv_entry ([.ref v]) (n := 1) (Nat.le_of_ble_eq_true rfl)
  rw [lg_entry_eq]
  generalize (lg_sl ([.ref v]) ++ List.replicate (1 - (lg_sl ([.ref v])).length) Slot.unset).toArray = ls at hl ⊢
  replace hl : lv_has ls 1 [(0, .ref v)] := hl
  refine lv_aload_n hx hb dX5_firstError_0 rfl (lv_at hl 0 rfl) ?_
  refine va_get (D := (dC, dI)) (ci := 3) (v := .ref x) (C := RX5) (T := TX5) (N := 6) hx hb hts hiX5 hown hK hP 0 rfl rfl 3 (by decide) hf29 (fun _ h9 => h9) rfl dX5_firstError_1 ?_
  have hPc := hP.sub (ws' := [(x, .inr (0, [.ref xS, .ref xW, .ref xN, .ref xH, .int (nI nn), .int od, .int po])), (xS, .inl (cI, 60, .inl B0)), (xW, .inl (cW, 60, .inr (.inr (.inr (.inr Wr))))), (xN, .inl (cI, 60, .inl Nm)), (xH, .inl (cI, 60, .inl Sh))]) [1, 2, 3, 4, 5] rfl
  have hDc := hD.sub (ws' := [(x, .inr (0, [.ref xS, .ref xW, .ref xN, .ref xH, .int (nI nn), .int od, .int po])), (xS, .inl (cI, 60, .inl B0)), (xW, .inl (cW, 60, .inr (.inr (.inr (.inr Wr))))), (xN, .inl (cI, 60, .inl Nm)), (xH, .inl (cI, 60, .inl Sh))]) [1, 2, 3, 4, 5] (by decide) rfl
  have hFc := va_free (wc := [(x, .inr (0, [.ref xS, .ref xW, .ref xN, .ref xH, .int (nI nn), .int od, .int po])), (xS, .inl (cI, 60, .inl B0)), (xW, .inl (cW, 60, .inr (.inr (.inr (.inr Wr))))), (xN, .inl (cI, 60, .inl Nm)), (xH, .inl (cI, 60, .inl Sh))]) hD hS hA [1, 2, 3, 4, 5] rfl
  refine va_calli (va_runV (As := []) (rest := []) ⟨hx, hb, hml, hown, hts⟩ (kX1_readOrders l dC dI cI cV cW wa sw ad aK aV H.size x xS xW xN xH nn od po B0 Wr Nm Sh (hnn)) (cwV 0 hts gX5_firstError_X1_readOrders rfl rfl rfl hdX1_readOrders ⟨Nat.le_of_ble_eq_true rfl, Nat.le_of_ble_eq_true rfl⟩) (pWi_V hK hP (imW hIm hS hFc) hNw hPc hDc 1 0 rfl rfl rfl) rfl rfl hl.1 rfl (lv_room (Nat.le_of_ble_eq_true rfl)) dX5_firstError_4 ⟨Nat.zero_le _, Nat.zero_le _⟩) hS (fun q _ h => hFc q h) hFc (fun r_4 u_ t_ H1 locs ht_ hvm_ hw_ hB_ hz_ hk_ hS => ?_)
  obtain ⟨hP1, -, hD1⟩ := hB_
  rw [ht_] at hP1
  obtain ⟨hP, hD⟩ := va_join (wr := [(v, .inr (3, [.ref h, .ref g, .ref bs, .ref x, .ref sv, .int sn]))]) (w1 := [(x, .inr (0, [.ref xS, .ref xW, .ref xN, .ref xH, .int (nI nn), .int (nI ((cLp ad B0 nn 60 0 ((true, 0), Wr, Nm, Sh)).2)), .int (nI ((cLp ad B0 nn 60 0 ((true, 0), Wr, Nm, Sh)).1.1.2))])), (xS, .inl (cI, 60, .inl B0)), (xW, .inl (cW, 60, .inr (.inr (.inr (.inr ((cLp ad B0 nn 60 0 ((true, 0), Wr, Nm, Sh)).1.2.1)))))), (xN, .inl (cI, 60, .inl ((cLp ad B0 nn 60 0 ((true, 0), Wr, Nm, Sh)).1.2.2.1))), (xH, .inl (cI, 60, .inl ((cLp ad B0 nn 60 0 ((true, 0), Wr, Nm, Sh)).1.2.2.2)))]) hP hD [1, 2, 3, 4, 5] [0] rfl rfl (by decide) (by decide) hk_ hFc hP1 hD1
  clear hP1 hD1 hPc hDc hFc hk_ hz_ hvm_ ht_
  generalize H1 = H at hP hS ⊢
  replace hP : va_P (dC, dI) vwCl [(v, .inr (3, [.ref h, .ref g, .ref bs, .ref x, .ref sv, .int sn])), (x, .inr (0, [.ref xS, .ref xW, .ref xN, .ref xH, .int (nI nn), .int (nI ((cLp ad B0 nn 60 0 ((true, 0), Wr, Nm, Sh)).2)), .int (nI ((cLp ad B0 nn 60 0 ((true, 0), Wr, Nm, Sh)).1.1.2))])), (xS, .inl (cI, 60, .inl B0)), (xW, .inl (cW, 60, .inr (.inr (.inr (.inr ((cLp ad B0 nn 60 0 ((true, 0), Wr, Nm, Sh)).1.2.1)))))), (xN, .inl (cI, 60, .inl ((cLp ad B0 nn 60 0 ((true, 0), Wr, Nm, Sh)).1.2.2.1))), (xH, .inl (cI, 60, .inl ((cLp ad B0 nn 60 0 ((true, 0), Wr, Nm, Sh)).1.2.2.2)))] H := hP
  replace hD : va_D A [(v, .inr (3, [.ref h, .ref g, .ref bs, .ref x, .ref sv, .int sn])), (x, .inr (0, [.ref xS, .ref xW, .ref xN, .ref xH, .int (nI nn), .int (nI ((cLp ad B0 nn 60 0 ((true, 0), Wr, Nm, Sh)).2)), .int (nI ((cLp ad B0 nn 60 0 ((true, 0), Wr, Nm, Sh)).1.1.2))])), (xS, .inl (cI, 60, .inl B0)), (xW, .inl (cW, 60, .inr (.inr (.inr (.inr ((cLp ad B0 nn 60 0 ((true, 0), Wr, Nm, Sh)).1.2.1)))))), (xN, .inl (cI, 60, .inl ((cLp ad B0 nn 60 0 ((true, 0), Wr, Nm, Sh)).1.2.2.1))), (xH, .inl (cI, 60, .inl ((cLp ad B0 nn 60 0 ((true, 0), Wr, Nm, Sh)).1.2.2.2)))] := hD
  refine W.widen (k := 0) (n := 0) (by decide) (by decide) ?_
  have hw_ : r_4 = (bI ((cLp ad B0 nn 60 0 ((true, 0), Wr, Nm, Sh)).1.1.1)) := hw_
  subst hw_
  refine lv_pop hx hb dX5_firstError_7 rfl ?_
  refine lv_aload_n hx hb dX5_firstError_8 rfl (lv_at hl 0 rfl) ?_
  refine va_get (D := (dC, dI)) (ci := 3) (v := .ref x) (C := RX5) (T := TX5) (N := 6) hx hb hts hiX5 hown hK hP 0 rfl rfl 3 (by decide) hf29 (fun _ h9 => h9) rfl dX5_firstError_9 ?_
  refine va_get (D := (dC, dI)) (ci := 0) (v := .int (nI ((cLp ad B0 nn 60 0 ((true, 0), Wr, Nm, Sh)).1.1.2))) (C := RX1) (T := TX1) (N := 7) hx hb hts hiX1 hown hK hP 1 rfl rfl 6 (by decide) hf179 (fun _ h9 => h9) rfl dX5_firstError_12 ?_
  have hP9 := hP
  have hD9 := hD
  exact W.iret (v := (nI ((cLp ad B0 nn 60 0 ((true, 0), Wr, Nm, Sh)).1.1.2))) hx hb hr (fun t ht hW => ⟨⟨(nI ((cLp ad B0 nn 60 0 ((true, 0), Wr, Nm, Sh)).1.1.2)), (), rfl, rfl, by rw [ht]; exact hP9, va_K.moved hW.alike hK, hD9⟩, hS.F ht⟩) hS.2.2 dX5_firstError_15
set_option maxHeartbeats 4000000 in
set_option maxRecDepth 100000 in
theorem kX5_fullness (l : Launch) (dC : Nat → ClassId) (dI : Nat → Nat → Nat) (cI cV cW : ClassId) (v : Nat) (h : Nat) (g : Nat) (bs : Nat) (x : Nat) (sv : Nat) (sn : Int32) (vR : Nat) (vQ : Nat) (vF : Nat) (vW : Nat) (vP : Nat) (vH : Nat) (vN : Nat) (vO : Nat) (cn : Nat) (wk : Int32) (sc : Int32) (F : Nat → Int32) (R : Nat → Int32) (hne : vf_n64 (FP.ddiv (FP.i2d (cFl F 6)) (FP.i2d (cFl R 6)))) (hro : nI 1 ≤ cFl R 6) : Met l yX5_fullness wsX5_fullness ({ frames := 0, cells := 0, slots := 0, locals := 0 }) (pR (dC, dI) (tyS cI cV cW) [.ref v] [(v, .inr (3, [.ref h, .ref g, .ref bs, .ref x, .ref sv, .int sn])), (h, .inr (2, [.ref vR, .ref vQ, .ref vF, .ref vW, .ref vP, .ref vH, .ref vN, .ref vO, .int (nI cn), .int wk, .int sc])), (vF, .inl (cI, 6, .inl F)), (vR, .inl (cI, 6, .inl R))]) (vp_Sd (fun r_ => r_ = FP.ddiv (FP.i2d (cFl F 6)) (FP.i2d (cFl R 6)))) 0 0 (fun _ => False) := by
  refine Met.ofW (cc := cX5_fullness) (maxL := 4) (ret := (some .double)) (by decide) rfl ?_
  intro p e s m args below meth c s₁ B hml hv
  obtain ⟨rfl, hP, hK⟩ := hv
  have hx := B.exec
  have hb := B.bytes
  have hr := B.returns
  have hts := atoms_spec (ws := wsX5_fullness) B.pre
  have hown : s.vm.findClass RX5 = some m.cls := findClass_of_methodNamed B.named
  have hlocks := B.notSynchronized
  have hf10 := hts (.fieldLink RX5 10 "VaultShelves" "now" "LVaultShelves$Vault;") (by decide +kernel)
  have hf50 := hts (.fieldLink RX5 50 "VaultShelves$Vault" "filled" "[I") (by decide +kernel)
  have hf62 := hts (.fieldLink RX5 62 "VaultShelves$Vault" "rooms" "[I") (by decide +kernel)
  have hiX3 : ∀ w ∈ u_ws RX3 TX3 11, w ∈ wsX5_fullness := by decide +kernel
  have hiX5 : ∀ w ∈ u_ws RX5 TX5 6, w ∈ wsX5_fullness := by decide +kernel
  have hl := lv_entry ([.ref v]) (n := 4) (Nat.le_of_ble_eq_true rfl)
  rw [lg_entry_eq]
  generalize (lg_sl ([.ref v]) ++ List.replicate (4 - (lg_sl ([.ref v])).length) Slot.unset).toArray = ls at hl ⊢
  replace hl : lv_has ls 4 [(0, .ref v)] := hl
  refine lv_iconst (v := (nI 0)) hx hb dX5_fullness_0 (by decide) ?_
  refine lv_istore_n (lv' := [(1, .int (nI 0)), (0, .ref v)]) hx hb dX5_fullness_1 rfl hl (by decide) rfl (fun ls hl => ?_)
  refine lv_iconst (v := (nI 0)) hx hb dX5_fullness_2 (by decide) ?_
  refine lv_istore_n (lv' := [(2, .int (nI 0)), (1, .int (nI 0)), (0, .ref v)]) hx hb dX5_fullness_3 rfl hl (by decide) rfl (fun ls hl => ?_)
  refine lv_iconst (v := (nI 0)) hx hb dX5_fullness_4 (by decide) ?_
  refine lv_istore_n (lv' := [(3, .int (nI 0)), (2, .int (nI 0)), (1, .int (nI 0)), (0, .ref v)]) hx hb dX5_fullness_5 rfl hl (by decide) rfl (fun ls hl => ?_)
  have el_i6_1 : (nI 0) = (cFl F 0) := by rfl
  have el_i6_2 : (nI 0) = (cFl R 0) := by rfl
  have hI0 : (fun (i : Nat) ls => (i ≤ 6) ∧ (lv_has ls 4 [(0, .ref v), (1, .int (cFl F i)), (2, .int (cFl R i)), (3, .int (nI i))])) 0 ls := ⟨by omega, lv_cg (lv_sub hl [3, 2, 1, 0] rfl) ((congrArg (fun z_ => ([(0, .ref v), (1, .int z_), (2, .int (nI 0)), (3, .int (nI 0))] : List (Nat × Value))) el_i6_1).trans (congrArg (fun z_ => ([(0, .ref v), (1, .int (cFl F 0)), (2, .int z_), (3, .int (nI 0))] : List (Nat × Value))) el_i6_2))⟩
  clear hl
  revert ls
  refine lp_ls (fun (i : Nat) ls => (i ≤ 6) ∧ (lv_has ls 4 [(0, .ref v), (1, .int (cFl F i)), (2, .int (cFl R i)), (3, .int (nI i))])) (fun (i : Nat) => 6 - i) 0 (fun q_ ls hI ih6 => ?_)
  obtain ⟨i, rfl⟩ : ∃ z, z = q_ := ⟨_, rfl⟩
  obtain ⟨hi, hl⟩ := hI
  refine lv_iload_n hx hb dX5_fullness_6 rfl (lv_at hl 3 rfl) ?_
  refine lv_bipush (v := (nI 6)) hx hb dX5_fullness_7 (by decide) ?_
  refine n_icmp_ge (tgt := 42) hx hb dX5_fullness_9 (by decide) (by omega) (by omega) (fun c_9 => ?_) (fun c_9 => ?_)
  · obtain rfl : i = 6 := by omega
    refine lv_iload_n hx hb dX5_fullness_42 rfl (lv_at hl 2 rfl) ?_
    refine lv_iconst (v := (nI 1)) hx hb dX5_fullness_43 (by decide) ?_
    refine lv_icmp_ge (tgt := 51) hx hb dX5_fullness_44 (by decide) (fun c_44 => ?_) (fun c_44 => (by exfalso; exact c_44 hro))
    refine lv_iload_n hx hb dX5_fullness_51 rfl (lv_at hl 1 rfl) ?_
    refine lv_i2d hx hb dX5_fullness_52 ?_
    refine lv_iload_n hx hb dX5_fullness_53 rfl (lv_at hl 2 rfl) ?_
    refine lv_i2d hx hb dX5_fullness_54 ?_
    refine lv_ddiv hx hb dX5_fullness_55 (hne) ?_
    exact W.dret (v := (FP.ddiv (FP.i2d (cFl F 6)) (FP.i2d (cFl R 6)))) hx hb hr (fun t ht hW => ⟨_, rfl, rfl, ht⟩) (fun q hq => absurd hq List.not_mem_nil) dX5_fullness_56
  · refine lv_iload_n hx hb dX5_fullness_12 rfl (lv_at hl 1 rfl) ?_
    refine lv_aload_n hx hb dX5_fullness_13 rfl (lv_at hl 0 rfl) ?_
    refine va_get (D := (dC, dI)) (ci := 3) (v := .ref h) (C := RX5) (T := TX5) (N := 6) hx hb hts hiX5 hown hK hP 0 rfl rfl 0 (by decide) hf10 (fun _ h9 => h9) rfl dX5_fullness_14 ?_
    refine va_get (D := (dC, dI)) (ci := 2) (v := .ref vF) (C := RX3) (T := TX3) (N := 11) hx hb hts hiX3 hown hK hP 1 rfl rfl 2 (by decide) hf50 (fun _ h9 => h9) rfl dX5_fullness_17 ?_
    refine lv_iload_n hx hb dX5_fullness_20 rfl (lv_at hl 3 rfl) ?_
    refine n_iald hx hb hK hP 2 0 rfl rfl (show i < 6 from by omega) (by decide) dX5_fullness_21 ?_
    refine lv_iadd hx hb dX5_fullness_22 ?_
    refine lv_istore_n (lv' := [(1, .int ((cFl F i) + (F i))), (0, .ref v), (2, .int (cFl R i)), (3, .int (nI i))]) hx hb dX5_fullness_23 rfl hl (by decide) rfl (fun ls hl => ?_)
    refine lv_iload_n hx hb dX5_fullness_24 rfl (lv_at hl 2 rfl) ?_
    refine lv_aload_n hx hb dX5_fullness_25 rfl (lv_at hl 1 rfl) ?_
    refine va_get (D := (dC, dI)) (ci := 3) (v := .ref h) (C := RX5) (T := TX5) (N := 6) hx hb hts hiX5 hown hK hP 0 rfl rfl 0 (by decide) hf10 (fun _ h9 => h9) rfl dX5_fullness_26 ?_
    refine va_get (D := (dC, dI)) (ci := 2) (v := .ref vR) (C := RX3) (T := TX3) (N := 11) hx hb hts hiX3 hown hK hP 1 rfl rfl 0 (by decide) hf62 (fun _ h9 => h9) rfl dX5_fullness_29 ?_
    refine lv_iload_n hx hb dX5_fullness_32 rfl (lv_at hl 3 rfl) ?_
    refine n_iald hx hb hK hP 3 0 rfl rfl (show i < 6 from by omega) (by decide) dX5_fullness_33 ?_
    refine lv_iadd hx hb dX5_fullness_34 ?_
    refine lv_istore_n (lv' := [(2, .int ((cFl R i) + (R i))), (1, .int ((cFl F i) + (F i))), (0, .ref v), (3, .int (nI i))]) hx hb dX5_fullness_35 rfl hl (by decide) rfl (fun ls hl => ?_)
    refine lv_iinc (v := (nI (i + 1))) (lv' := [(3, .int (nI (i + 1))), (2, .int ((cFl R i) + (R i))), (1, .int ((cFl F i) + (F i))), (0, .ref v)]) hx hb dX5_fullness_36 hl (k := 3) rfl (n_inc _ 1) (by decide) rfl (fun ls hl => ?_)
    refine lv_goto (tgt := 6) hx hb dX5_fullness_39 (by decide) ?_
    have el_b6_2_1 : ((cFl F i) + (F i)) = (cFl F (i + 1)) := by rfl
    have el_b6_2_2 : ((cFl R i) + (R i)) = (cFl R (i + 1)) := by rfl
    exact ih6 (i + 1) ls ⟨by omega, lv_cg (lv_sub hl [3, 2, 1, 0] rfl) ((congrArg (fun z_ => ([(0, .ref v), (1, .int z_), (2, .int ((cFl R i) + (R i))), (3, .int (nI (i + 1)))] : List (Nat × Value))) el_b6_2_1).trans (congrArg (fun z_ => ([(0, .ref v), (1, .int (cFl F (i + 1))), (2, .int z_), (3, .int (nI (i + 1)))] : List (Nat × Value))) el_b6_2_2))⟩ (by first | omega | (dsimp only; omega))
theorem hdX5_records : yX5_records.cls = RX5 ∧ yX5_records.cls ≠ "java/lang/invoke/MethodHandle" ∧ yX5_records.cls ≠ "java/lang/invoke/VarHandle" ∧ (parseMethodDescriptor yX5_records.desc).map (fun d => d.parameters.length) = some 0 := by decide +kernel
theorem hdX5_mix : yX5_mix.cls ≠ "java/lang/invoke/MethodHandle" ∧ yX5_mix.cls ≠ "java/lang/invoke/VarHandle" ∧ (parseMethodDescriptor yX5_mix.desc).map (fun d => d.parameters.length) = some 2 := by decide +kernel
theorem hdX5_misplaced : yX5_misplaced.cls = RX5 ∧ yX5_misplaced.cls ≠ "java/lang/invoke/MethodHandle" ∧ yX5_misplaced.cls ≠ "java/lang/invoke/VarHandle" ∧ (parseMethodDescriptor yX5_misplaced.desc).map (fun d => d.parameters.length) = some 0 := by decide +kernel
theorem hdX5_walked : yX5_walked.cls = RX5 ∧ yX5_walked.cls ≠ "java/lang/invoke/MethodHandle" ∧ yX5_walked.cls ≠ "java/lang/invoke/VarHandle" ∧ (parseMethodDescriptor yX5_walked.desc).map (fun d => d.parameters.length) = some 0 := by decide +kernel
theorem hdX5_cost : yX5_cost.cls = RX5 ∧ yX5_cost.cls ≠ "java/lang/invoke/MethodHandle" ∧ yX5_cost.cls ≠ "java/lang/invoke/VarHandle" ∧ (parseMethodDescriptor yX5_cost.desc).map (fun d => d.parameters.length) = some 0 := by decide +kernel
theorem hdX5_steps : yX5_steps.cls = RX5 ∧ yX5_steps.cls ≠ "java/lang/invoke/MethodHandle" ∧ yX5_steps.cls ≠ "java/lang/invoke/VarHandle" ∧ (parseMethodDescriptor yX5_steps.desc).map (fun d => d.parameters.length) = some 0 := by decide +kernel
theorem hdX5_bestGain : yX5_bestGain.cls = RX5 ∧ yX5_bestGain.cls ≠ "java/lang/invoke/MethodHandle" ∧ yX5_bestGain.cls ≠ "java/lang/invoke/VarHandle" ∧ (parseMethodDescriptor yX5_bestGain.desc).map (fun d => d.parameters.length) = some 0 := by decide +kernel
set_option maxHeartbeats 4000000 in
set_option maxRecDepth 100000 in
theorem kX5_digest (l : Launch) (dC : Nat → ClassId) (dI : Nat → Nat → Nat) (cI cV cW : ClassId) (sz : Nat) (v : Nat) (h : Nat) (g : Nat) (bs : Nat) (x : Nat) (sv : Nat) (sn : Int32) (vR : Nat) (vQ : Nat) (vF : Nat) (vW : Nat) (vP : Nat) (vH : Nat) (vN : Nat) (vO : Nat) (cn : Nat) (wk : Int32) (sc : Int32) (N : Nat → Int32) (O : Nat → Int32) (Q : Nat → Int32) (P : Nat → Int32) (Hm : Nat → Int32) (Wd : Nat → Int32) (R : Nat → Int32) (F : Nat → Int32) (bg : Int32) (br : Int32) (bh : Int32) (bp : Int32) (hV : VO P Hm cn) : Met l yX5_digest wsX5_digest ({ frames := 5, cells := 0, slots := 0, locals := 109 }) (pW (dC, dI) (tyS cI cV cW) sz [.ref v] [(v, .inr (3, [.ref h, .ref g, .ref bs, .ref x, .ref sv, .int sn])), (h, .inr (2, [.ref vR, .ref vQ, .ref vF, .ref vW, .ref vP, .ref vH, .ref vN, .ref vO, .int (nI cn), .int wk, .int sc])), (vN, .inl (cI, 16, .inl N)), (vO, .inl (cI, 16, .inl O)), (vQ, .inl (cI, 6, .inl Q)), (vP, .inl (cI, 16, .inl P)), (vH, .inl (cI, 16, .inl Hm)), (vW, .inl (cI, 16, .inl Wd)), (vR, .inl (cI, 6, .inl R)), (vF, .inl (cI, 6, .inl F)), (bs, .inr (1, [.int bg, .int br, .int bh, .int bp]))]) (va_Ql (fun (r_ : Int64) (_ : Unit) => r_ = cDr N O Q P Hm Wd (cDs R F Q (dh (dh (dh (dh (dh (dh 4424 (nI cn)) (cMm P Hm cn)) wk) (sCo N O Hm Q cn)) sc) (cF N O Q P Hm Wd R F cn (bg, br, bh, bp)).1) 6) cn) (fun (_ : Unit) t => qB (dC, dI) (tyS cI cV cW) (va_A [(v, .inr (3, [.ref h, .ref g, .ref bs, .ref x, .ref sv, .int sn])), (h, .inr (2, [.ref vR, .ref vQ, .ref vF, .ref vW, .ref vP, .ref vH, .ref vN, .ref vO, .int (nI cn), .int wk, .int sc])), (vN, .inl (cI, 16, .inl N)), (vO, .inl (cI, 16, .inl O)), (vQ, .inl (cI, 6, .inl Q)), (vP, .inl (cI, 16, .inl P)), (vH, .inl (cI, 16, .inl Hm)), (vW, .inl (cI, 16, .inl Wd)), (vR, .inl (cI, 6, .inl R)), (vF, .inl (cI, 6, .inl F)), (bs, .inr (1, [.int bg, .int br, .int bh, .int bp]))] sz) [(v, .inr (3, [.ref h, .ref g, .ref bs, .ref x, .ref sv, .int sn])), (h, .inr (2, [.ref vR, .ref vQ, .ref vF, .ref vW, .ref vP, .ref vH, .ref vN, .ref vO, .int (nI cn), .int wk, .int sc])), (vN, .inl (cI, 16, .inl N)), (vO, .inl (cI, 16, .inl O)), (vQ, .inl (cI, 6, .inl Q)), (vP, .inl (cI, 16, .inl P)), (vH, .inl (cI, 16, .inl Hm)), (vW, .inl (cI, 16, .inl Wd)), (vR, .inl (cI, 6, .inl R)), (vF, .inl (cI, 6, .inl F)), (bs, .inr (1, [.int ((cF N O Q P Hm Wd R F cn (bg, br, bh, bp)).1), .int ((cF N O Q P Hm Wd R F cn (bg, br, bh, bp)).2.1), .int ((cF N O Q P Hm Wd R F cn (bg, br, bh, bp)).2.2.1), .int ((cF N O Q P Hm Wd R F cn (bg, br, bh, bp)).2.2.2)]))] t) (va_A [(v, .inr (3, [.ref h, .ref g, .ref bs, .ref x, .ref sv, .int sn])), (h, .inr (2, [.ref vR, .ref vQ, .ref vF, .ref vW, .ref vP, .ref vH, .ref vN, .ref vO, .int (nI cn), .int wk, .int sc])), (vN, .inl (cI, 16, .inl N)), (vO, .inl (cI, 16, .inl O)), (vQ, .inl (cI, 6, .inl Q)), (vP, .inl (cI, 16, .inl P)), (vH, .inl (cI, 16, .inl Hm)), (vW, .inl (cI, 16, .inl Wd)), (vR, .inl (cI, 6, .inl R)), (vF, .inl (cI, 6, .inl F)), (bs, .inr (1, [.int bg, .int br, .int bh, .int bp]))] sz)) 0 0 (va_A [(v, .inr (3, [.ref h, .ref g, .ref bs, .ref x, .ref sv, .int sn])), (h, .inr (2, [.ref vR, .ref vQ, .ref vF, .ref vW, .ref vP, .ref vH, .ref vN, .ref vO, .int (nI cn), .int wk, .int sc])), (vN, .inl (cI, 16, .inl N)), (vO, .inl (cI, 16, .inl O)), (vQ, .inl (cI, 6, .inl Q)), (vP, .inl (cI, 16, .inl P)), (vH, .inl (cI, 16, .inl Hm)), (vW, .inl (cI, 16, .inl Wd)), (vR, .inl (cI, 6, .inl R)), (vF, .inl (cI, 6, .inl F)), (bs, .inr (1, [.int bg, .int br, .int bh, .int bp]))] sz) := by
  refine Met.ofW (cc := cX5_digest) (maxL := 4) (ret := (some .long)) (by decide) rfl ?_
  intro p e s m args below meth c s₁ B hml hv
  obtain ⟨rfl, hsz, hP, hK, hD0⟩ := hv
  have hx := B.exec
  have hb := B.bytes
  have hr := B.returns
  have hts := atoms_spec (ws := wsX5_digest) B.pre
  have hown : s.vm.findClass RX5 = some m.cls := findClass_of_methodNamed B.named
  have hlocks := B.notSynchronized
  subst hsz
  have hD := hD0.self (sz := s.heap.size)
  generalize hAe : va_A [(v, .inr (3, [.ref h, .ref g, .ref bs, .ref x, .ref sv, .int sn])), (h, .inr (2, [.ref vR, .ref vQ, .ref vF, .ref vW, .ref vP, .ref vH, .ref vN, .ref vO, .int (nI cn), .int wk, .int sc])), (vN, .inl (cI, 16, .inl N)), (vO, .inl (cI, 16, .inl O)), (vQ, .inl (cI, 6, .inl Q)), (vP, .inl (cI, 16, .inl P)), (vH, .inl (cI, 16, .inl Hm)), (vW, .inl (cI, 16, .inl Wd)), (vR, .inl (cI, 6, .inl R)), (vF, .inl (cI, 6, .inl F)), (bs, .inr (1, [.int bg, .int br, .int bh, .int bp]))] s.heap.size = A at hD ⊢
  have hA : ∀ q : Nat, s.heap.size ≤ q → A q := fun q h => by rw [← hAe]; exact Or.inr h
  have hS : va_S A s.heap s.heap [] := va_S.rf
  refine w_gen hP hS (fun H locs hP hS => ?_)
  have hf10 := hts (.fieldLink RX5 10 "VaultShelves" "now" "LVaultShelves$Vault;") (by decide +kernel)
  have hf65 := hts (.fieldLink RX5 65 "VaultShelves$Vault" "reaches" "[I") (by decide +kernel)
  have hf91 := hts (.fieldLink RX5 91 "VaultShelves$Vault" "count" "I") (by decide +kernel)
  have hf95 := hts (.fieldLink RX5 95 "VaultShelves$Vault" "widths" "[I") (by decide +kernel)
  have hf98 := hts (.fieldLink RX5 98 "VaultShelves$Vault" "places" "[I") (by decide +kernel)
  have hf101 := hts (.fieldLink RX5 101 "VaultShelves$Vault" "homes" "[I") (by decide +kernel)
  have hiX2 : ∀ w ∈ u_ws RX2 TX2 4, w ∈ wsX5_digest := by decide +kernel
  have hiX3 : ∀ w ∈ u_ws RX3 TX3 11, w ∈ wsX5_digest := by decide +kernel
  have hiX5 : ∀ w ∈ u_ws RX5 TX5 6, w ∈ wsX5_digest := by decide +kernel
  have hl := lv_entry ([.ref v]) (n := 4) (Nat.le_of_ble_eq_true rfl)
  rw [lg_entry_eq]
  generalize (lg_sl ([.ref v]) ++ List.replicate (4 - (lg_sl ([.ref v])).length) Slot.unset).toArray = ls at hl ⊢
  replace hl : lv_has ls 4 [(0, .ref v)] := hl
  have hc := hV.1
  refine lv_ldc2 hx hb hown (hts (.constantLong RX5 195 4424) (by decide +kernel)) dX5_digest_0 ?_
  refine lv_aload_n hx hb dX5_digest_3 rfl (lv_at hl 0 rfl) ?_
  refine vp_callSi (W.runV (As := []) (rest := [.long 4424]) ⟨hx, hb, hml, hown, hts⟩ (kX5_records l dC dI cI cV cW v h g bs x sv sn vR vQ vF vW vP vH vN vO cn wk sc) (cwV 0 hts gX5_digest_X5_records rfl rfl rfl hdX5_records ⟨Nat.le_of_ble_eq_true rfl, Nat.le_of_ble_eq_true rfl⟩) (pR_V hK hP 0 3 rfl rfl rfl [0, 1] rfl) rfl rfl hl.1 rfl (lv_room (Nat.le_of_ble_eq_true rfl)) dX5_digest_4 ⟨Nat.zero_le _, Nat.zero_le _⟩) (fun r_4 hr_ => ?_)
  subst hr_
  refine vp_callSl (W.runS (As := [.long 4424, .int (nI cn)]) (rest := []) ⟨hx, hb, hml, hown, hts⟩ (kX5_mix l dC dI cI cV cW 4424 (nI cn)) (va_cwS 2 hts gX5_digest_X5_mix rfl rfl rfl hdX5_mix ⟨Nat.le_of_ble_eq_true rfl, Nat.le_of_ble_eq_true rfl⟩) (pR_S hK hP [] rfl) rfl rfl hl.1 rfl (lv_room (Nat.le_of_ble_eq_true rfl)) dX5_digest_7 ⟨Nat.zero_le _, Nat.zero_le _⟩) (fun r_7 hr_ => ?_)
  subst hr_
  refine lv_lstore_n (lv' := [(1, .long (dh 4424 (nI cn))), (0, .ref v)]) hx hb dX5_digest_10 rfl hl (by decide) rfl (fun ls hl => ?_)
  refine lv_lload_n hx hb dX5_digest_11 rfl (lv_at hl 0 rfl) ?_
  refine lv_aload_n hx hb dX5_digest_12 rfl (lv_at hl 1 rfl) ?_
  refine vp_callSi (W.runV (As := []) (rest := [.long (dh 4424 (nI cn))]) ⟨hx, hb, hml, hown, hts⟩ (kX5_misplaced l dC dI cI cV cW v h g bs x sv sn vR vQ vF vW vP vH vN vO cn wk sc P Hm (by omega)) (cwV 0 hts gX5_digest_X5_misplaced rfl rfl rfl hdX5_misplaced ⟨Nat.le_of_ble_eq_true rfl, Nat.le_of_ble_eq_true rfl⟩) (pR_V hK hP 0 3 rfl rfl rfl [0, 1, 5, 6] rfl) rfl rfl hl.1 rfl (lv_room (Nat.le_of_ble_eq_true rfl)) dX5_digest_13 ⟨Nat.zero_le _, Nat.zero_le _⟩) (fun r_13 hr_ => ?_)
  subst hr_
  refine vp_callSl (W.runS (As := [.long (dh 4424 (nI cn)), .int (cMm P Hm cn)]) (rest := []) ⟨hx, hb, hml, hown, hts⟩ (kX5_mix l dC dI cI cV cW (dh 4424 (nI cn)) (cMm P Hm cn)) (va_cwS 2 hts gX5_digest_X5_mix rfl rfl rfl hdX5_mix ⟨Nat.le_of_ble_eq_true rfl, Nat.le_of_ble_eq_true rfl⟩) (pR_S hK hP [] rfl) rfl rfl hl.1 rfl (lv_room (Nat.le_of_ble_eq_true rfl)) dX5_digest_16 ⟨Nat.zero_le _, Nat.zero_le _⟩) (fun r_16 hr_ => ?_)
  subst hr_
  refine lv_lstore_n (lv' := [(1, .long (dh (dh 4424 (nI cn)) (cMm P Hm cn))), (0, .ref v)]) hx hb dX5_digest_19 rfl hl (by decide) rfl (fun ls hl => ?_)
  refine lv_lload_n hx hb dX5_digest_20 rfl (lv_at hl 0 rfl) ?_
  refine lv_aload_n hx hb dX5_digest_21 rfl (lv_at hl 1 rfl) ?_
  refine vp_callSi (W.runV (As := []) (rest := [.long (dh (dh 4424 (nI cn)) (cMm P Hm cn))]) ⟨hx, hb, hml, hown, hts⟩ (kX5_walked l dC dI cI cV cW v h g bs x sv sn vR vQ vF vW vP vH vN vO cn wk sc) (cwV 0 hts gX5_digest_X5_walked rfl rfl rfl hdX5_walked ⟨Nat.le_of_ble_eq_true rfl, Nat.le_of_ble_eq_true rfl⟩) (pR_V hK hP 0 3 rfl rfl rfl [0, 1] rfl) rfl rfl hl.1 rfl (lv_room (Nat.le_of_ble_eq_true rfl)) dX5_digest_22 ⟨Nat.zero_le _, Nat.zero_le _⟩) (fun r_22 hr_ => ?_)
  subst r_22
  refine vp_callSl (W.runS (As := [.long (dh (dh 4424 (nI cn)) (cMm P Hm cn)), .int wk]) (rest := []) ⟨hx, hb, hml, hown, hts⟩ (kX5_mix l dC dI cI cV cW (dh (dh 4424 (nI cn)) (cMm P Hm cn)) wk) (va_cwS 2 hts gX5_digest_X5_mix rfl rfl rfl hdX5_mix ⟨Nat.le_of_ble_eq_true rfl, Nat.le_of_ble_eq_true rfl⟩) (pR_S hK hP [] rfl) rfl rfl hl.1 rfl (lv_room (Nat.le_of_ble_eq_true rfl)) dX5_digest_25 ⟨Nat.zero_le _, Nat.zero_le _⟩) (fun r_25 hr_ => ?_)
  subst hr_
  refine lv_lstore_n (lv' := [(1, .long (dh (dh (dh 4424 (nI cn)) (cMm P Hm cn)) wk)), (0, .ref v)]) hx hb dX5_digest_28 rfl hl (by decide) rfl (fun ls hl => ?_)
  refine lv_lload_n hx hb dX5_digest_29 rfl (lv_at hl 0 rfl) ?_
  refine lv_aload_n hx hb dX5_digest_30 rfl (lv_at hl 1 rfl) ?_
  refine vp_callSi (W.runV (As := []) (rest := [.long (dh (dh (dh 4424 (nI cn)) (cMm P Hm cn)) wk)]) ⟨hx, hb, hml, hown, hts⟩ (kX5_cost l dC dI cI cV cW v h g bs x sv sn vR vQ vF vW vP vH vN vO cn wk sc N O Hm Q P (hV)) (cwV 0 hts gX5_digest_X5_cost rfl rfl rfl hdX5_cost ⟨Nat.le_of_ble_eq_true rfl, Nat.le_of_ble_eq_true rfl⟩) (pR_V hK hP 0 3 rfl rfl rfl [0, 1, 2, 3, 6, 4, 5] rfl) rfl rfl hl.1 rfl (lv_room (Nat.le_of_ble_eq_true rfl)) dX5_digest_31 ⟨Nat.zero_le _, Nat.zero_le _⟩) (fun r_31 hr_ => ?_)
  subst hr_
  refine vp_callSl (W.runS (As := [.long (dh (dh (dh 4424 (nI cn)) (cMm P Hm cn)) wk), .int (sCo N O Hm Q cn)]) (rest := []) ⟨hx, hb, hml, hown, hts⟩ (kX5_mix l dC dI cI cV cW (dh (dh (dh 4424 (nI cn)) (cMm P Hm cn)) wk) (sCo N O Hm Q cn)) (va_cwS 2 hts gX5_digest_X5_mix rfl rfl rfl hdX5_mix ⟨Nat.le_of_ble_eq_true rfl, Nat.le_of_ble_eq_true rfl⟩) (pR_S hK hP [] rfl) rfl rfl hl.1 rfl (lv_room (Nat.le_of_ble_eq_true rfl)) dX5_digest_34 ⟨Nat.zero_le _, Nat.zero_le _⟩) (fun r_34 hr_ => ?_)
  subst hr_
  refine lv_lstore_n (lv' := [(1, .long (dh (dh (dh (dh 4424 (nI cn)) (cMm P Hm cn)) wk) (sCo N O Hm Q cn))), (0, .ref v)]) hx hb dX5_digest_37 rfl hl (by decide) rfl (fun ls hl => ?_)
  refine lv_lload_n hx hb dX5_digest_38 rfl (lv_at hl 0 rfl) ?_
  refine lv_aload_n hx hb dX5_digest_39 rfl (lv_at hl 1 rfl) ?_
  refine vp_callSi (W.runV (As := []) (rest := [.long (dh (dh (dh (dh 4424 (nI cn)) (cMm P Hm cn)) wk) (sCo N O Hm Q cn))]) ⟨hx, hb, hml, hown, hts⟩ (kX5_steps l dC dI cI cV cW v h g bs x sv sn vR vQ vF vW vP vH vN vO cn wk sc) (cwV 0 hts gX5_digest_X5_steps rfl rfl rfl hdX5_steps ⟨Nat.le_of_ble_eq_true rfl, Nat.le_of_ble_eq_true rfl⟩) (pR_V hK hP 0 3 rfl rfl rfl [0, 1] rfl) rfl rfl hl.1 rfl (lv_room (Nat.le_of_ble_eq_true rfl)) dX5_digest_40 ⟨Nat.zero_le _, Nat.zero_le _⟩) (fun r_40 hr_ => ?_)
  subst r_40
  refine vp_callSl (W.runS (As := [.long (dh (dh (dh (dh 4424 (nI cn)) (cMm P Hm cn)) wk) (sCo N O Hm Q cn)), .int sc]) (rest := []) ⟨hx, hb, hml, hown, hts⟩ (kX5_mix l dC dI cI cV cW (dh (dh (dh (dh 4424 (nI cn)) (cMm P Hm cn)) wk) (sCo N O Hm Q cn)) sc) (va_cwS 2 hts gX5_digest_X5_mix rfl rfl rfl hdX5_mix ⟨Nat.le_of_ble_eq_true rfl, Nat.le_of_ble_eq_true rfl⟩) (pR_S hK hP [] rfl) rfl rfl hl.1 rfl (lv_room (Nat.le_of_ble_eq_true rfl)) dX5_digest_43 ⟨Nat.zero_le _, Nat.zero_le _⟩) (fun r_43 hr_ => ?_)
  subst hr_
  refine lv_lstore_n (lv' := [(1, .long (dh (dh (dh (dh (dh 4424 (nI cn)) (cMm P Hm cn)) wk) (sCo N O Hm Q cn)) sc)), (0, .ref v)]) hx hb dX5_digest_46 rfl hl (by decide) rfl (fun ls hl => ?_)
  refine lv_lload_n hx hb dX5_digest_47 rfl (lv_at hl 0 rfl) ?_
  refine lv_aload_n hx hb dX5_digest_48 rfl (lv_at hl 1 rfl) ?_
  have hPc := hP.sub (ws' := [(v, .inr (3, [.ref h, .ref g, .ref bs, .ref x, .ref sv, .int sn])), (h, .inr (2, [.ref vR, .ref vQ, .ref vF, .ref vW, .ref vP, .ref vH, .ref vN, .ref vO, .int (nI cn), .int wk, .int sc])), (vN, .inl (cI, 16, .inl N)), (vO, .inl (cI, 16, .inl O)), (vQ, .inl (cI, 6, .inl Q)), (vP, .inl (cI, 16, .inl P)), (vH, .inl (cI, 16, .inl Hm)), (vW, .inl (cI, 16, .inl Wd)), (vR, .inl (cI, 6, .inl R)), (vF, .inl (cI, 6, .inl F)), (bs, .inr (1, [.int bg, .int br, .int bh, .int bp]))]) [0, 1, 2, 3, 4, 5, 6, 7, 8, 9, 10] rfl
  have hDc := hD.sub (ws' := [(v, .inr (3, [.ref h, .ref g, .ref bs, .ref x, .ref sv, .int sn])), (h, .inr (2, [.ref vR, .ref vQ, .ref vF, .ref vW, .ref vP, .ref vH, .ref vN, .ref vO, .int (nI cn), .int wk, .int sc])), (vN, .inl (cI, 16, .inl N)), (vO, .inl (cI, 16, .inl O)), (vQ, .inl (cI, 6, .inl Q)), (vP, .inl (cI, 16, .inl P)), (vH, .inl (cI, 16, .inl Hm)), (vW, .inl (cI, 16, .inl Wd)), (vR, .inl (cI, 6, .inl R)), (vF, .inl (cI, 6, .inl F)), (bs, .inr (1, [.int bg, .int br, .int bh, .int bp]))]) [0, 1, 2, 3, 4, 5, 6, 7, 8, 9, 10] (by decide) rfl
  have hFc := va_free (wc := [(v, .inr (3, [.ref h, .ref g, .ref bs, .ref x, .ref sv, .int sn])), (h, .inr (2, [.ref vR, .ref vQ, .ref vF, .ref vW, .ref vP, .ref vH, .ref vN, .ref vO, .int (nI cn), .int wk, .int sc])), (vN, .inl (cI, 16, .inl N)), (vO, .inl (cI, 16, .inl O)), (vQ, .inl (cI, 6, .inl Q)), (vP, .inl (cI, 16, .inl P)), (vH, .inl (cI, 16, .inl Hm)), (vW, .inl (cI, 16, .inl Wd)), (vR, .inl (cI, 6, .inl R)), (vF, .inl (cI, 6, .inl F)), (bs, .inr (1, [.int bg, .int br, .int bh, .int bp]))]) hD hS hA [0, 1, 2, 3, 4, 5, 6, 7, 8, 9, 10] rfl
  refine va_calli (va_runV (As := []) (rest := [.long (dh (dh (dh (dh (dh 4424 (nI cn)) (cMm P Hm cn)) wk) (sCo N O Hm Q cn)) sc)]) ⟨hx, hb, hml, hown, hts⟩ (kX5_bestGain l dC dI cI cV cW H.size v h g bs x sv sn vR vQ vF vW vP vH vN vO cn wk sc N O Q P Hm Wd R F bg br bh bp (hV)) (cwV 0 hts gX5_digest_X5_bestGain rfl rfl rfl hdX5_bestGain ⟨Nat.le_of_ble_eq_true rfl, Nat.le_of_ble_eq_true rfl⟩) (pW_V hK hP hPc hDc 0 3 rfl rfl rfl) rfl rfl hl.1 rfl (lv_room (Nat.le_of_ble_eq_true rfl)) dX5_digest_49 ⟨Nat.zero_le _, Nat.zero_le _⟩) hS (fun q _ h => hFc q h) hFc (fun r_49 u_ t_ H1 locs ht_ hvm_ hw_ hB_ hz_ hk_ hS => ?_)
  obtain ⟨hP1, -, hD1⟩ := hB_
  rw [ht_] at hP1
  obtain ⟨hP, hD⟩ := va_join (wr := []) (w1 := [(v, .inr (3, [.ref h, .ref g, .ref bs, .ref x, .ref sv, .int sn])), (h, .inr (2, [.ref vR, .ref vQ, .ref vF, .ref vW, .ref vP, .ref vH, .ref vN, .ref vO, .int (nI cn), .int wk, .int sc])), (vN, .inl (cI, 16, .inl N)), (vO, .inl (cI, 16, .inl O)), (vQ, .inl (cI, 6, .inl Q)), (vP, .inl (cI, 16, .inl P)), (vH, .inl (cI, 16, .inl Hm)), (vW, .inl (cI, 16, .inl Wd)), (vR, .inl (cI, 6, .inl R)), (vF, .inl (cI, 6, .inl F)), (bs, .inr (1, [.int ((cF N O Q P Hm Wd R F cn (bg, br, bh, bp)).1), .int ((cF N O Q P Hm Wd R F cn (bg, br, bh, bp)).2.1), .int ((cF N O Q P Hm Wd R F cn (bg, br, bh, bp)).2.2.1), .int ((cF N O Q P Hm Wd R F cn (bg, br, bh, bp)).2.2.2)]))]) hP hD [0, 1, 2, 3, 4, 5, 6, 7, 8, 9, 10] [] rfl rfl (by decide) (by decide) hk_ hFc hP1 hD1
  clear hP1 hD1 hPc hDc hFc hk_ hz_ hvm_ ht_
  generalize H1 = H at hP hS ⊢
  replace hP : va_P (dC, dI) vwCl [(v, .inr (3, [.ref h, .ref g, .ref bs, .ref x, .ref sv, .int sn])), (h, .inr (2, [.ref vR, .ref vQ, .ref vF, .ref vW, .ref vP, .ref vH, .ref vN, .ref vO, .int (nI cn), .int wk, .int sc])), (vN, .inl (cI, 16, .inl N)), (vO, .inl (cI, 16, .inl O)), (vQ, .inl (cI, 6, .inl Q)), (vP, .inl (cI, 16, .inl P)), (vH, .inl (cI, 16, .inl Hm)), (vW, .inl (cI, 16, .inl Wd)), (vR, .inl (cI, 6, .inl R)), (vF, .inl (cI, 6, .inl F)), (bs, .inr (1, [.int ((cF N O Q P Hm Wd R F cn (bg, br, bh, bp)).1), .int ((cF N O Q P Hm Wd R F cn (bg, br, bh, bp)).2.1), .int ((cF N O Q P Hm Wd R F cn (bg, br, bh, bp)).2.2.1), .int ((cF N O Q P Hm Wd R F cn (bg, br, bh, bp)).2.2.2)]))] H := hP
  replace hD : va_D A [(v, .inr (3, [.ref h, .ref g, .ref bs, .ref x, .ref sv, .int sn])), (h, .inr (2, [.ref vR, .ref vQ, .ref vF, .ref vW, .ref vP, .ref vH, .ref vN, .ref vO, .int (nI cn), .int wk, .int sc])), (vN, .inl (cI, 16, .inl N)), (vO, .inl (cI, 16, .inl O)), (vQ, .inl (cI, 6, .inl Q)), (vP, .inl (cI, 16, .inl P)), (vH, .inl (cI, 16, .inl Hm)), (vW, .inl (cI, 16, .inl Wd)), (vR, .inl (cI, 6, .inl R)), (vF, .inl (cI, 6, .inl F)), (bs, .inr (1, [.int ((cF N O Q P Hm Wd R F cn (bg, br, bh, bp)).1), .int ((cF N O Q P Hm Wd R F cn (bg, br, bh, bp)).2.1), .int ((cF N O Q P Hm Wd R F cn (bg, br, bh, bp)).2.2.1), .int ((cF N O Q P Hm Wd R F cn (bg, br, bh, bp)).2.2.2)]))] := hD
  refine W.widen (k := 0) (n := 0) (by decide) (by decide) ?_
  have hw_ : r_49 = ((cF N O Q P Hm Wd R F cn (bg, br, bh, bp)).1) := hw_
  subst hw_
  refine vp_callSl (W.runS (As := [.long (dh (dh (dh (dh (dh 4424 (nI cn)) (cMm P Hm cn)) wk) (sCo N O Hm Q cn)) sc), .int ((cF N O Q P Hm Wd R F cn (bg, br, bh, bp)).1)]) (rest := []) ⟨hx, hb, hml, hown, hts⟩ (kX5_mix l dC dI cI cV cW (dh (dh (dh (dh (dh 4424 (nI cn)) (cMm P Hm cn)) wk) (sCo N O Hm Q cn)) sc) ((cF N O Q P Hm Wd R F cn (bg, br, bh, bp)).1)) (va_cwS 2 hts gX5_digest_X5_mix rfl rfl rfl hdX5_mix ⟨Nat.le_of_ble_eq_true rfl, Nat.le_of_ble_eq_true rfl⟩) (pR_S hK hP [] rfl) rfl rfl hl.1 rfl (lv_room (Nat.le_of_ble_eq_true rfl)) dX5_digest_52 ⟨Nat.zero_le _, Nat.zero_le _⟩) (fun r_52 hr_ => ?_)
  subst hr_
  refine lv_lstore_n (lv' := [(1, .long (dh (dh (dh (dh (dh (dh 4424 (nI cn)) (cMm P Hm cn)) wk) (sCo N O Hm Q cn)) sc) ((cF N O Q P Hm Wd R F cn (bg, br, bh, bp)).1))), (0, .ref v)]) hx hb dX5_digest_55 rfl hl (by decide) rfl (fun ls hl => ?_)
  refine lv_iconst (v := (nI 0)) hx hb dX5_digest_56 (by decide) ?_
  refine lv_istore_n (lv' := [(3, .int (nI 0)), (1, .long (dh (dh (dh (dh (dh (dh 4424 (nI cn)) (cMm P Hm cn)) wk) (sCo N O Hm Q cn)) sc) ((cF N O Q P Hm Wd R F cn (bg, br, bh, bp)).1))), (0, .ref v)]) hx hb dX5_digest_57 rfl hl (by decide) rfl (fun ls hl => ?_)
  have el_i58_1 : (dh (dh (dh (dh (dh (dh 4424 (nI cn)) (cMm P Hm cn)) wk) (sCo N O Hm Q cn)) sc) ((cF N O Q P Hm Wd R F cn (bg, br, bh, bp)).1)) = (cDs R F Q (dh (dh (dh (dh (dh (dh 4424 (nI cn)) (cMm P Hm cn)) wk) (sCo N O Hm Q cn)) sc) (cF N O Q P Hm Wd R F cn (bg, br, bh, bp)).1) 0) := by rfl
  have hI0 : (fun (k : Nat) ls H locs => (k ≤ 6) ∧ (va_P (dC, dI) vwCl [(v, .inr (3, [.ref h, .ref g, .ref bs, .ref x, .ref sv, .int sn])), (h, .inr (2, [.ref vR, .ref vQ, .ref vF, .ref vW, .ref vP, .ref vH, .ref vN, .ref vO, .int (nI cn), .int wk, .int sc])), (vN, .inl (cI, 16, .inl N)), (vO, .inl (cI, 16, .inl O)), (vQ, .inl (cI, 6, .inl Q)), (vP, .inl (cI, 16, .inl P)), (vH, .inl (cI, 16, .inl Hm)), (vW, .inl (cI, 16, .inl Wd)), (vR, .inl (cI, 6, .inl R)), (vF, .inl (cI, 6, .inl F)), (bs, .inr (1, [.int ((cF N O Q P Hm Wd R F cn (bg, br, bh, bp)).1), .int ((cF N O Q P Hm Wd R F cn (bg, br, bh, bp)).2.1), .int ((cF N O Q P Hm Wd R F cn (bg, br, bh, bp)).2.2.1), .int ((cF N O Q P Hm Wd R F cn (bg, br, bh, bp)).2.2.2)]))] H) ∧ (va_D A [(v, .inr (3, [.ref h, .ref g, .ref bs, .ref x, .ref sv, .int sn])), (h, .inr (2, [.ref vR, .ref vQ, .ref vF, .ref vW, .ref vP, .ref vH, .ref vN, .ref vO, .int (nI cn), .int wk, .int sc])), (vN, .inl (cI, 16, .inl N)), (vO, .inl (cI, 16, .inl O)), (vQ, .inl (cI, 6, .inl Q)), (vP, .inl (cI, 16, .inl P)), (vH, .inl (cI, 16, .inl Hm)), (vW, .inl (cI, 16, .inl Wd)), (vR, .inl (cI, 6, .inl R)), (vF, .inl (cI, 6, .inl F)), (bs, .inr (1, [.int ((cF N O Q P Hm Wd R F cn (bg, br, bh, bp)).1), .int ((cF N O Q P Hm Wd R F cn (bg, br, bh, bp)).2.1), .int ((cF N O Q P Hm Wd R F cn (bg, br, bh, bp)).2.2.1), .int ((cF N O Q P Hm Wd R F cn (bg, br, bh, bp)).2.2.2)]))]) ∧ (va_S A s.heap H locs) ∧ (lv_has ls 4 [(0, .ref v), (1, .long (cDs R F Q (dh (dh (dh (dh (dh (dh 4424 (nI cn)) (cMm P Hm cn)) wk) (sCo N O Hm Q cn)) sc) (cF N O Q P Hm Wd R F cn (bg, br, bh, bp)).1) k)), (3, .int (nI k))])) 0 ls H locs := ⟨by omega, hP, hD, hS, lv_cg (lv_sub hl [2, 1, 0] rfl) (congrArg (fun z_ => ([(0, .ref v), (1, .long z_), (3, .int (nI 0))] : List (Nat × Value))) el_i58_1)⟩
  clear hl hP hD hS
  revert ls
  revert locs
  revert H
  refine lp_H (fun (k : Nat) ls H locs => (k ≤ 6) ∧ (va_P (dC, dI) vwCl [(v, .inr (3, [.ref h, .ref g, .ref bs, .ref x, .ref sv, .int sn])), (h, .inr (2, [.ref vR, .ref vQ, .ref vF, .ref vW, .ref vP, .ref vH, .ref vN, .ref vO, .int (nI cn), .int wk, .int sc])), (vN, .inl (cI, 16, .inl N)), (vO, .inl (cI, 16, .inl O)), (vQ, .inl (cI, 6, .inl Q)), (vP, .inl (cI, 16, .inl P)), (vH, .inl (cI, 16, .inl Hm)), (vW, .inl (cI, 16, .inl Wd)), (vR, .inl (cI, 6, .inl R)), (vF, .inl (cI, 6, .inl F)), (bs, .inr (1, [.int ((cF N O Q P Hm Wd R F cn (bg, br, bh, bp)).1), .int ((cF N O Q P Hm Wd R F cn (bg, br, bh, bp)).2.1), .int ((cF N O Q P Hm Wd R F cn (bg, br, bh, bp)).2.2.1), .int ((cF N O Q P Hm Wd R F cn (bg, br, bh, bp)).2.2.2)]))] H) ∧ (va_D A [(v, .inr (3, [.ref h, .ref g, .ref bs, .ref x, .ref sv, .int sn])), (h, .inr (2, [.ref vR, .ref vQ, .ref vF, .ref vW, .ref vP, .ref vH, .ref vN, .ref vO, .int (nI cn), .int wk, .int sc])), (vN, .inl (cI, 16, .inl N)), (vO, .inl (cI, 16, .inl O)), (vQ, .inl (cI, 6, .inl Q)), (vP, .inl (cI, 16, .inl P)), (vH, .inl (cI, 16, .inl Hm)), (vW, .inl (cI, 16, .inl Wd)), (vR, .inl (cI, 6, .inl R)), (vF, .inl (cI, 6, .inl F)), (bs, .inr (1, [.int ((cF N O Q P Hm Wd R F cn (bg, br, bh, bp)).1), .int ((cF N O Q P Hm Wd R F cn (bg, br, bh, bp)).2.1), .int ((cF N O Q P Hm Wd R F cn (bg, br, bh, bp)).2.2.1), .int ((cF N O Q P Hm Wd R F cn (bg, br, bh, bp)).2.2.2)]))]) ∧ (va_S A s.heap H locs) ∧ (lv_has ls 4 [(0, .ref v), (1, .long (cDs R F Q (dh (dh (dh (dh (dh (dh 4424 (nI cn)) (cMm P Hm cn)) wk) (sCo N O Hm Q cn)) sc) (cF N O Q P Hm Wd R F cn (bg, br, bh, bp)).1) k)), (3, .int (nI k))])) (fun (k : Nat) => 6 - k) 0 (fun q_ H locs ls hI ih58 => ?_)
  obtain ⟨k, rfl⟩ : ∃ z, z = q_ := ⟨_, rfl⟩
  obtain ⟨hk, hP, hD, hS, hl⟩ := hI
  refine lv_iload_n hx hb dX5_digest_58 rfl (lv_at hl 2 rfl) ?_
  refine lv_bipush (v := (nI 6)) hx hb dX5_digest_59 (by decide) ?_
  refine n_icmp_ge (tgt := 97) hx hb dX5_digest_61 (by decide) (by omega) (by omega) (fun c_61 => ?_) (fun c_61 => ?_)
  · obtain rfl : k = 6 := by omega
    refine lv_iconst (v := (nI 0)) hx hb dX5_digest_97 (by decide) ?_
    refine lv_istore_n (lv' := [(3, .int (nI 0)), (0, .ref v), (1, .long (cDs R F Q (dh (dh (dh (dh (dh (dh 4424 (nI cn)) (cMm P Hm cn)) wk) (sCo N O Hm Q cn)) sc) (cF N O Q P Hm Wd R F cn (bg, br, bh, bp)).1) 6))]) hx hb dX5_digest_98 rfl hl (by decide) rfl (fun ls hl => ?_)
    have el_i99_1 : (cDs R F Q (dh (dh (dh (dh (dh (dh 4424 (nI cn)) (cMm P Hm cn)) wk) (sCo N O Hm Q cn)) sc) (cF N O Q P Hm Wd R F cn (bg, br, bh, bp)).1) 6) = (cDr N O Q P Hm Wd (cDs R F Q (dh (dh (dh (dh (dh (dh 4424 (nI cn)) (cMm P Hm cn)) wk) (sCo N O Hm Q cn)) sc) (cF N O Q P Hm Wd R F cn (bg, br, bh, bp)).1) 6) 0) := by rfl
    have hI0 : (fun (r : Nat) ls H locs => (r ≤ cn) ∧ (va_P (dC, dI) vwCl [(v, .inr (3, [.ref h, .ref g, .ref bs, .ref x, .ref sv, .int sn])), (h, .inr (2, [.ref vR, .ref vQ, .ref vF, .ref vW, .ref vP, .ref vH, .ref vN, .ref vO, .int (nI cn), .int wk, .int sc])), (vN, .inl (cI, 16, .inl N)), (vO, .inl (cI, 16, .inl O)), (vQ, .inl (cI, 6, .inl Q)), (vP, .inl (cI, 16, .inl P)), (vH, .inl (cI, 16, .inl Hm)), (vW, .inl (cI, 16, .inl Wd)), (vR, .inl (cI, 6, .inl R)), (vF, .inl (cI, 6, .inl F)), (bs, .inr (1, [.int ((cF N O Q P Hm Wd R F cn (bg, br, bh, bp)).1), .int ((cF N O Q P Hm Wd R F cn (bg, br, bh, bp)).2.1), .int ((cF N O Q P Hm Wd R F cn (bg, br, bh, bp)).2.2.1), .int ((cF N O Q P Hm Wd R F cn (bg, br, bh, bp)).2.2.2)]))] H) ∧ (va_D A [(v, .inr (3, [.ref h, .ref g, .ref bs, .ref x, .ref sv, .int sn])), (h, .inr (2, [.ref vR, .ref vQ, .ref vF, .ref vW, .ref vP, .ref vH, .ref vN, .ref vO, .int (nI cn), .int wk, .int sc])), (vN, .inl (cI, 16, .inl N)), (vO, .inl (cI, 16, .inl O)), (vQ, .inl (cI, 6, .inl Q)), (vP, .inl (cI, 16, .inl P)), (vH, .inl (cI, 16, .inl Hm)), (vW, .inl (cI, 16, .inl Wd)), (vR, .inl (cI, 6, .inl R)), (vF, .inl (cI, 6, .inl F)), (bs, .inr (1, [.int ((cF N O Q P Hm Wd R F cn (bg, br, bh, bp)).1), .int ((cF N O Q P Hm Wd R F cn (bg, br, bh, bp)).2.1), .int ((cF N O Q P Hm Wd R F cn (bg, br, bh, bp)).2.2.1), .int ((cF N O Q P Hm Wd R F cn (bg, br, bh, bp)).2.2.2)]))]) ∧ (va_S A s.heap H locs) ∧ (lv_has ls 4 [(0, .ref v), (1, .long (cDr N O Q P Hm Wd (cDs R F Q (dh (dh (dh (dh (dh (dh 4424 (nI cn)) (cMm P Hm cn)) wk) (sCo N O Hm Q cn)) sc) (cF N O Q P Hm Wd R F cn (bg, br, bh, bp)).1) 6) r)), (3, .int (nI r))])) 0 ls H locs := ⟨by omega, hP, hD, hS, lv_cg (lv_sub hl [1, 2, 0] rfl) (congrArg (fun z_ => ([(0, .ref v), (1, .long z_), (3, .int (nI 0))] : List (Nat × Value))) el_i99_1)⟩
    clear hl hP hD hS
    revert ls
    revert locs
    revert H
    refine lp_H (fun (r : Nat) ls H locs => (r ≤ cn) ∧ (va_P (dC, dI) vwCl [(v, .inr (3, [.ref h, .ref g, .ref bs, .ref x, .ref sv, .int sn])), (h, .inr (2, [.ref vR, .ref vQ, .ref vF, .ref vW, .ref vP, .ref vH, .ref vN, .ref vO, .int (nI cn), .int wk, .int sc])), (vN, .inl (cI, 16, .inl N)), (vO, .inl (cI, 16, .inl O)), (vQ, .inl (cI, 6, .inl Q)), (vP, .inl (cI, 16, .inl P)), (vH, .inl (cI, 16, .inl Hm)), (vW, .inl (cI, 16, .inl Wd)), (vR, .inl (cI, 6, .inl R)), (vF, .inl (cI, 6, .inl F)), (bs, .inr (1, [.int ((cF N O Q P Hm Wd R F cn (bg, br, bh, bp)).1), .int ((cF N O Q P Hm Wd R F cn (bg, br, bh, bp)).2.1), .int ((cF N O Q P Hm Wd R F cn (bg, br, bh, bp)).2.2.1), .int ((cF N O Q P Hm Wd R F cn (bg, br, bh, bp)).2.2.2)]))] H) ∧ (va_D A [(v, .inr (3, [.ref h, .ref g, .ref bs, .ref x, .ref sv, .int sn])), (h, .inr (2, [.ref vR, .ref vQ, .ref vF, .ref vW, .ref vP, .ref vH, .ref vN, .ref vO, .int (nI cn), .int wk, .int sc])), (vN, .inl (cI, 16, .inl N)), (vO, .inl (cI, 16, .inl O)), (vQ, .inl (cI, 6, .inl Q)), (vP, .inl (cI, 16, .inl P)), (vH, .inl (cI, 16, .inl Hm)), (vW, .inl (cI, 16, .inl Wd)), (vR, .inl (cI, 6, .inl R)), (vF, .inl (cI, 6, .inl F)), (bs, .inr (1, [.int ((cF N O Q P Hm Wd R F cn (bg, br, bh, bp)).1), .int ((cF N O Q P Hm Wd R F cn (bg, br, bh, bp)).2.1), .int ((cF N O Q P Hm Wd R F cn (bg, br, bh, bp)).2.2.1), .int ((cF N O Q P Hm Wd R F cn (bg, br, bh, bp)).2.2.2)]))]) ∧ (va_S A s.heap H locs) ∧ (lv_has ls 4 [(0, .ref v), (1, .long (cDr N O Q P Hm Wd (cDs R F Q (dh (dh (dh (dh (dh (dh 4424 (nI cn)) (cMm P Hm cn)) wk) (sCo N O Hm Q cn)) sc) (cF N O Q P Hm Wd R F cn (bg, br, bh, bp)).1) 6) r)), (3, .int (nI r))])) (fun (r : Nat) => cn - r) 0 (fun q_ H locs ls hI ih99 => ?_)
    obtain ⟨r, rfl⟩ : ∃ z, z = q_ := ⟨_, rfl⟩
    obtain ⟨hr_2, hP, hD, hS, hl⟩ := hI
    refine lv_iload_n hx hb dX5_digest_99 rfl (lv_at hl 2 rfl) ?_
    refine lv_aload_n hx hb dX5_digest_100 rfl (lv_at hl 0 rfl) ?_
    refine va_get (D := (dC, dI)) (ci := 3) (v := .ref h) (C := RX5) (T := TX5) (N := 6) hx hb hts hiX5 hown hK hP 0 rfl rfl 0 (by decide) hf10 (fun _ h9 => h9) rfl dX5_digest_101 ?_
    refine va_get (D := (dC, dI)) (ci := 2) (v := .int (nI cn)) (C := RX3) (T := TX3) (N := 11) hx hb hts hiX3 hown hK hP 1 rfl rfl 8 (by decide) hf91 (fun _ h9 => h9) rfl dX5_digest_104 ?_
    refine n_icmp_ge (tgt := 184) hx hb dX5_digest_107 (by decide) (by omega) (by omega) (fun c_107 => ?_) (fun c_107 => ?_)
    · obtain rfl : cn = r := by omega
      refine lv_lload_n hx hb dX5_digest_184 rfl (lv_at hl 1 rfl) ?_
      have hP9 := hP
      have hD9 := hD
      exact W.lret (v := (cDr N O Q P Hm Wd (cDs R F Q (dh (dh (dh (dh (dh (dh 4424 (nI cn)) (cMm P Hm cn)) wk) (sCo N O Hm Q cn)) sc) (cF N O Q P Hm Wd R F cn (bg, br, bh, bp)).1) 6) cn)) hx hb hr (fun t ht hW => ⟨⟨(cDr N O Q P Hm Wd (cDs R F Q (dh (dh (dh (dh (dh (dh 4424 (nI cn)) (cMm P Hm cn)) wk) (sCo N O Hm Q cn)) sc) (cF N O Q P Hm Wd R F cn (bg, br, bh, bp)).1) 6) cn), (), rfl, rfl, by rw [ht]; exact hP9, va_K.moved hW.alike hK, hD9⟩, hS.F ht⟩) hS.2.2 dX5_digest_185
    · refine lv_lload_n hx hb dX5_digest_110 rfl (lv_at hl 1 rfl) ?_
      refine lv_aload_n hx hb dX5_digest_111 rfl (lv_at hl 0 rfl) ?_
      refine va_get (D := (dC, dI)) (ci := 3) (v := .ref h) (C := RX5) (T := TX5) (N := 6) hx hb hts hiX5 hown hK hP 0 rfl rfl 0 (by decide) hf10 (fun _ h9 => h9) rfl dX5_digest_112 ?_
      refine va_get (D := (dC, dI)) (ci := 2) (v := .ref vW) (C := RX3) (T := TX3) (N := 11) hx hb hts hiX3 hown hK hP 1 rfl rfl 3 (by decide) hf95 (fun _ h9 => h9) rfl dX5_digest_115 ?_
      refine lv_iload_n hx hb dX5_digest_118 rfl (lv_at hl 2 rfl) ?_
      refine n_iald hx hb hK hP 7 0 rfl rfl (show r < 16 from by omega) (by decide) dX5_digest_119 ?_
      refine vp_callSl (W.runS (As := [.long (cDr N O Q P Hm Wd (cDs R F Q (dh (dh (dh (dh (dh (dh 4424 (nI cn)) (cMm P Hm cn)) wk) (sCo N O Hm Q cn)) sc) (cF N O Q P Hm Wd R F cn (bg, br, bh, bp)).1) 6) r), .int (Wd r)]) (rest := []) ⟨hx, hb, hml, hown, hts⟩ (kX5_mix l dC dI cI cV cW (cDr N O Q P Hm Wd (cDs R F Q (dh (dh (dh (dh (dh (dh 4424 (nI cn)) (cMm P Hm cn)) wk) (sCo N O Hm Q cn)) sc) (cF N O Q P Hm Wd R F cn (bg, br, bh, bp)).1) 6) r) (Wd r)) (va_cwS 2 hts gX5_digest_X5_mix rfl rfl rfl hdX5_mix ⟨Nat.le_of_ble_eq_true rfl, Nat.le_of_ble_eq_true rfl⟩) (pR_S hK hP [] rfl) rfl rfl hl.1 rfl (lv_room (Nat.le_of_ble_eq_true rfl)) dX5_digest_120 ⟨Nat.zero_le _, Nat.zero_le _⟩) (fun r_120 hr_ => ?_)
      subst hr_
      refine lv_lstore_n (lv' := [(1, .long (dh (cDr N O Q P Hm Wd (cDs R F Q (dh (dh (dh (dh (dh (dh 4424 (nI cn)) (cMm P Hm cn)) wk) (sCo N O Hm Q cn)) sc) (cF N O Q P Hm Wd R F cn (bg, br, bh, bp)).1) 6) r) (Wd r))), (0, .ref v), (3, .int (nI r))]) hx hb dX5_digest_123 rfl hl (by decide) rfl (fun ls hl => ?_)
      refine lv_lload_n hx hb dX5_digest_124 rfl (lv_at hl 0 rfl) ?_
      refine lv_aload_n hx hb dX5_digest_125 rfl (lv_at hl 1 rfl) ?_
      refine va_get (D := (dC, dI)) (ci := 3) (v := .ref h) (C := RX5) (T := TX5) (N := 6) hx hb hts hiX5 hown hK hP 0 rfl rfl 0 (by decide) hf10 (fun _ h9 => h9) rfl dX5_digest_126 ?_
      refine va_get (D := (dC, dI)) (ci := 2) (v := .ref vP) (C := RX3) (T := TX3) (N := 11) hx hb hts hiX3 hown hK hP 1 rfl rfl 4 (by decide) hf98 (fun _ h9 => h9) rfl dX5_digest_129 ?_
      refine lv_iload_n hx hb dX5_digest_132 rfl (lv_at hl 2 rfl) ?_
      refine n_iald hx hb hK hP 5 0 rfl rfl (show r < 16 from by omega) (by decide) dX5_digest_133 ?_
      refine vp_callSl (W.runS (As := [.long (dh (cDr N O Q P Hm Wd (cDs R F Q (dh (dh (dh (dh (dh (dh 4424 (nI cn)) (cMm P Hm cn)) wk) (sCo N O Hm Q cn)) sc) (cF N O Q P Hm Wd R F cn (bg, br, bh, bp)).1) 6) r) (Wd r)), .int (P r)]) (rest := []) ⟨hx, hb, hml, hown, hts⟩ (kX5_mix l dC dI cI cV cW (dh (cDr N O Q P Hm Wd (cDs R F Q (dh (dh (dh (dh (dh (dh 4424 (nI cn)) (cMm P Hm cn)) wk) (sCo N O Hm Q cn)) sc) (cF N O Q P Hm Wd R F cn (bg, br, bh, bp)).1) 6) r) (Wd r)) (P r)) (va_cwS 2 hts gX5_digest_X5_mix rfl rfl rfl hdX5_mix ⟨Nat.le_of_ble_eq_true rfl, Nat.le_of_ble_eq_true rfl⟩) (pR_S hK hP [] rfl) rfl rfl hl.1 rfl (lv_room (Nat.le_of_ble_eq_true rfl)) dX5_digest_134 ⟨Nat.zero_le _, Nat.zero_le _⟩) (fun r_134 hr_ => ?_)
      subst hr_
      refine lv_lstore_n (lv' := [(1, .long (dh (dh (cDr N O Q P Hm Wd (cDs R F Q (dh (dh (dh (dh (dh (dh 4424 (nI cn)) (cMm P Hm cn)) wk) (sCo N O Hm Q cn)) sc) (cF N O Q P Hm Wd R F cn (bg, br, bh, bp)).1) 6) r) (Wd r)) (P r))), (0, .ref v), (3, .int (nI r))]) hx hb dX5_digest_137 rfl hl (by decide) rfl (fun ls hl => ?_)
      refine lv_lload_n hx hb dX5_digest_138 rfl (lv_at hl 0 rfl) ?_
      refine lv_aload_n hx hb dX5_digest_139 rfl (lv_at hl 1 rfl) ?_
      refine va_get (D := (dC, dI)) (ci := 3) (v := .ref h) (C := RX5) (T := TX5) (N := 6) hx hb hts hiX5 hown hK hP 0 rfl rfl 0 (by decide) hf10 (fun _ h9 => h9) rfl dX5_digest_140 ?_
      refine va_get (D := (dC, dI)) (ci := 2) (v := .ref vH) (C := RX3) (T := TX3) (N := 11) hx hb hts hiX3 hown hK hP 1 rfl rfl 5 (by decide) hf101 (fun _ h9 => h9) rfl dX5_digest_143 ?_
      refine lv_iload_n hx hb dX5_digest_146 rfl (lv_at hl 2 rfl) ?_
      refine n_iald hx hb hK hP 6 0 rfl rfl (show r < 16 from by omega) (by decide) dX5_digest_147 ?_
      refine vp_callSl (W.runS (As := [.long (dh (dh (cDr N O Q P Hm Wd (cDs R F Q (dh (dh (dh (dh (dh (dh 4424 (nI cn)) (cMm P Hm cn)) wk) (sCo N O Hm Q cn)) sc) (cF N O Q P Hm Wd R F cn (bg, br, bh, bp)).1) 6) r) (Wd r)) (P r)), .int (Hm r)]) (rest := []) ⟨hx, hb, hml, hown, hts⟩ (kX5_mix l dC dI cI cV cW (dh (dh (cDr N O Q P Hm Wd (cDs R F Q (dh (dh (dh (dh (dh (dh 4424 (nI cn)) (cMm P Hm cn)) wk) (sCo N O Hm Q cn)) sc) (cF N O Q P Hm Wd R F cn (bg, br, bh, bp)).1) 6) r) (Wd r)) (P r)) (Hm r)) (va_cwS 2 hts gX5_digest_X5_mix rfl rfl rfl hdX5_mix ⟨Nat.le_of_ble_eq_true rfl, Nat.le_of_ble_eq_true rfl⟩) (pR_S hK hP [] rfl) rfl rfl hl.1 rfl (lv_room (Nat.le_of_ble_eq_true rfl)) dX5_digest_148 ⟨Nat.zero_le _, Nat.zero_le _⟩) (fun r_148 hr_ => ?_)
      subst hr_
      refine lv_lstore_n (lv' := [(1, .long (dh (dh (dh (cDr N O Q P Hm Wd (cDs R F Q (dh (dh (dh (dh (dh (dh 4424 (nI cn)) (cMm P Hm cn)) wk) (sCo N O Hm Q cn)) sc) (cF N O Q P Hm Wd R F cn (bg, br, bh, bp)).1) 6) r) (Wd r)) (P r)) (Hm r))), (0, .ref v), (3, .int (nI r))]) hx hb dX5_digest_151 rfl hl (by decide) rfl (fun ls hl => ?_)
      refine lv_lload_n hx hb dX5_digest_152 rfl (lv_at hl 0 rfl) ?_
      refine lv_aload_n hx hb dX5_digest_153 rfl (lv_at hl 1 rfl) ?_
      refine va_get (D := (dC, dI)) (ci := 3) (v := .ref h) (C := RX5) (T := TX5) (N := 6) hx hb hts hiX5 hown hK hP 0 rfl rfl 0 (by decide) hf10 (fun _ h9 => h9) rfl dX5_digest_154 ?_
      refine lv_iload_n hx hb dX5_digest_157 rfl (lv_at hl 2 rfl) ?_
      refine vp_callSi (W.runV (As := [.int (nI r)]) (rest := [.long (dh (dh (dh (cDr N O Q P Hm Wd (cDs R F Q (dh (dh (dh (dh (dh (dh 4424 (nI cn)) (cMm P Hm cn)) wk) (sCo N O Hm Q cn)) sc) (cF N O Q P Hm Wd R F cn (bg, br, bh, bp)).1) 6) r) (Wd r)) (P r)) (Hm r))]) ⟨hx, hb, hml, hown, hts⟩ (kX3_weightOf l dC dI cI cV cW h vR vQ vF vW vP vH vN vO cn wk sc N O r (by omega)) (cwV 1 hts gX5_digest_X3_weightOf rfl rfl rfl hdX3_weightOf ⟨Nat.le_of_ble_eq_true rfl, Nat.le_of_ble_eq_true rfl⟩) (pR_V hK hP 1 2 rfl rfl rfl [1, 2, 3] rfl) rfl rfl hl.1 rfl (lv_room (Nat.le_of_ble_eq_true rfl)) dX5_digest_158 ⟨Nat.zero_le _, Nat.zero_le _⟩) (fun r_158 hr_ => ?_)
      subst hr_
      refine vp_callSl (W.runS (As := [.long (dh (dh (dh (cDr N O Q P Hm Wd (cDs R F Q (dh (dh (dh (dh (dh (dh 4424 (nI cn)) (cMm P Hm cn)) wk) (sCo N O Hm Q cn)) sc) (cF N O Q P Hm Wd R F cn (bg, br, bh, bp)).1) 6) r) (Wd r)) (P r)) (Hm r)), .int (sHf N O r)]) (rest := []) ⟨hx, hb, hml, hown, hts⟩ (kX5_mix l dC dI cI cV cW (dh (dh (dh (cDr N O Q P Hm Wd (cDs R F Q (dh (dh (dh (dh (dh (dh 4424 (nI cn)) (cMm P Hm cn)) wk) (sCo N O Hm Q cn)) sc) (cF N O Q P Hm Wd R F cn (bg, br, bh, bp)).1) 6) r) (Wd r)) (P r)) (Hm r)) (sHf N O r)) (va_cwS 2 hts gX5_digest_X5_mix rfl rfl rfl hdX5_mix ⟨Nat.le_of_ble_eq_true rfl, Nat.le_of_ble_eq_true rfl⟩) (pR_S hK hP [] rfl) rfl rfl hl.1 rfl (lv_room (Nat.le_of_ble_eq_true rfl)) dX5_digest_161 ⟨Nat.zero_le _, Nat.zero_le _⟩) (fun r_161 hr_ => ?_)
      subst hr_
      refine lv_lstore_n (lv' := [(1, .long (dh (dh (dh (dh (cDr N O Q P Hm Wd (cDs R F Q (dh (dh (dh (dh (dh (dh 4424 (nI cn)) (cMm P Hm cn)) wk) (sCo N O Hm Q cn)) sc) (cF N O Q P Hm Wd R F cn (bg, br, bh, bp)).1) 6) r) (Wd r)) (P r)) (Hm r)) (sHf N O r))), (0, .ref v), (3, .int (nI r))]) hx hb dX5_digest_164 rfl hl (by decide) rfl (fun ls hl => ?_)
      refine lv_lload_n hx hb dX5_digest_165 rfl (lv_at hl 0 rfl) ?_
      refine lv_aload_n hx hb dX5_digest_166 rfl (lv_at hl 1 rfl) ?_
      refine va_get (D := (dC, dI)) (ci := 3) (v := .ref h) (C := RX5) (T := TX5) (N := 6) hx hb hts hiX5 hown hK hP 0 rfl rfl 0 (by decide) hf10 (fun _ h9 => h9) rfl dX5_digest_167 ?_
      refine lv_iload_n hx hb dX5_digest_170 rfl (lv_at hl 2 rfl) ?_
      refine vp_callSi (W.runV (As := [.int (nI r)]) (rest := [.long (dh (dh (dh (dh (cDr N O Q P Hm Wd (cDs R F Q (dh (dh (dh (dh (dh (dh 4424 (nI cn)) (cMm P Hm cn)) wk) (sCo N O Hm Q cn)) sc) (cF N O Q P Hm Wd R F cn (bg, br, bh, bp)).1) 6) r) (Wd r)) (P r)) (Hm r)) (sHf N O r))]) ⟨hx, hb, hml, hown, hts⟩ (kX3_walkOf l dC dI cI cV cW h vR vQ vF vW vP vH vN vO cn wk sc Q P Hm r (hV) (by omega)) (cwV 1 hts gX5_digest_X3_walkOf rfl rfl rfl hdX3_walkOf ⟨Nat.le_of_ble_eq_true rfl, Nat.le_of_ble_eq_true rfl⟩) (pR_V hK hP 1 2 rfl rfl rfl [1, 4, 5, 6] rfl) rfl rfl hl.1 rfl (lv_room (Nat.le_of_ble_eq_true rfl)) dX5_digest_171 ⟨Nat.zero_le _, Nat.zero_le _⟩) (fun r_171 hr_ => ?_)
      subst hr_
      refine vp_callSl (W.runS (As := [.long (dh (dh (dh (dh (cDr N O Q P Hm Wd (cDs R F Q (dh (dh (dh (dh (dh (dh 4424 (nI cn)) (cMm P Hm cn)) wk) (sCo N O Hm Q cn)) sc) (cF N O Q P Hm Wd R F cn (bg, br, bh, bp)).1) 6) r) (Wd r)) (P r)) (Hm r)) (sHf N O r)), .int (cWalk Q P Hm r)]) (rest := []) ⟨hx, hb, hml, hown, hts⟩ (kX5_mix l dC dI cI cV cW (dh (dh (dh (dh (cDr N O Q P Hm Wd (cDs R F Q (dh (dh (dh (dh (dh (dh 4424 (nI cn)) (cMm P Hm cn)) wk) (sCo N O Hm Q cn)) sc) (cF N O Q P Hm Wd R F cn (bg, br, bh, bp)).1) 6) r) (Wd r)) (P r)) (Hm r)) (sHf N O r)) (cWalk Q P Hm r)) (va_cwS 2 hts gX5_digest_X5_mix rfl rfl rfl hdX5_mix ⟨Nat.le_of_ble_eq_true rfl, Nat.le_of_ble_eq_true rfl⟩) (pR_S hK hP [] rfl) rfl rfl hl.1 rfl (lv_room (Nat.le_of_ble_eq_true rfl)) dX5_digest_174 ⟨Nat.zero_le _, Nat.zero_le _⟩) (fun r_174 hr_ => ?_)
      subst hr_
      refine lv_lstore_n (lv' := [(1, .long (dh (dh (dh (dh (dh (cDr N O Q P Hm Wd (cDs R F Q (dh (dh (dh (dh (dh (dh 4424 (nI cn)) (cMm P Hm cn)) wk) (sCo N O Hm Q cn)) sc) (cF N O Q P Hm Wd R F cn (bg, br, bh, bp)).1) 6) r) (Wd r)) (P r)) (Hm r)) (sHf N O r)) (cWalk Q P Hm r))), (0, .ref v), (3, .int (nI r))]) hx hb dX5_digest_177 rfl hl (by decide) rfl (fun ls hl => ?_)
      refine lv_iinc (v := (nI (r + 1))) (lv' := [(3, .int (nI (r + 1))), (1, .long (dh (dh (dh (dh (dh (cDr N O Q P Hm Wd (cDs R F Q (dh (dh (dh (dh (dh (dh 4424 (nI cn)) (cMm P Hm cn)) wk) (sCo N O Hm Q cn)) sc) (cF N O Q P Hm Wd R F cn (bg, br, bh, bp)).1) 6) r) (Wd r)) (P r)) (Hm r)) (sHf N O r)) (cWalk Q P Hm r))), (0, .ref v)]) hx hb dX5_digest_178 hl (k := 2) rfl (n_inc _ 1) (by decide) rfl (fun ls hl => ?_)
      refine lv_goto (tgt := 99) hx hb dX5_digest_181 (by decide) ?_
      have el_b99_2_1 : (dh (dh (dh (dh (dh (cDr N O Q P Hm Wd (cDs R F Q (dh (dh (dh (dh (dh (dh 4424 (nI cn)) (cMm P Hm cn)) wk) (sCo N O Hm Q cn)) sc) (cF N O Q P Hm Wd R F cn (bg, br, bh, bp)).1) 6) r) (Wd r)) (P r)) (Hm r)) (sHf N O r)) (cWalk Q P Hm r)) = (cDr N O Q P Hm Wd (cDs R F Q (dh (dh (dh (dh (dh (dh 4424 (nI cn)) (cMm P Hm cn)) wk) (sCo N O Hm Q cn)) sc) (cF N O Q P Hm Wd R F cn (bg, br, bh, bp)).1) 6) (r + 1)) := by rfl
      exact ih99 (r + 1) H locs ls ⟨by omega, hP, hD, hS, lv_cg (lv_sub hl [2, 1, 0] rfl) (congrArg (fun z_ => ([(0, .ref v), (1, .long z_), (3, .int (nI (r + 1)))] : List (Nat × Value))) el_b99_2_1)⟩ (by first | omega | (dsimp only; omega))
  · refine lv_lload_n hx hb dX5_digest_64 rfl (lv_at hl 1 rfl) ?_
    refine lv_aload_n hx hb dX5_digest_65 rfl (lv_at hl 0 rfl) ?_
    refine va_get (D := (dC, dI)) (ci := 3) (v := .ref h) (C := RX5) (T := TX5) (N := 6) hx hb hts hiX5 hown hK hP 0 rfl rfl 0 (by decide) hf10 (fun _ h9 => h9) rfl dX5_digest_66 ?_
    refine lv_iload_n hx hb dX5_digest_69 rfl (lv_at hl 2 rfl) ?_
    refine vp_callSi (W.runV (As := [.int (nI k)]) (rest := [.long (cDs R F Q (dh (dh (dh (dh (dh (dh 4424 (nI cn)) (cMm P Hm cn)) wk) (sCo N O Hm Q cn)) sc) (cF N O Q P Hm Wd R F cn (bg, br, bh, bp)).1) k)]) ⟨hx, hb, hml, hown, hts⟩ (kX3_freeRoom l dC dI cI cV cW h vR vQ vF vW vP vH vN vO cn wk sc R F k (by omega)) (cwV 1 hts gX5_digest_X3_freeRoom rfl rfl rfl hdX3_freeRoom ⟨Nat.le_of_ble_eq_true rfl, Nat.le_of_ble_eq_true rfl⟩) (pR_V hK hP 1 2 rfl rfl rfl [1, 8, 9] rfl) rfl rfl hl.1 rfl (lv_room (Nat.le_of_ble_eq_true rfl)) dX5_digest_70 ⟨Nat.zero_le _, Nat.zero_le _⟩) (fun r_70 hr_ => ?_)
    subst hr_
    refine vp_callSl (W.runS (As := [.long (cDs R F Q (dh (dh (dh (dh (dh (dh 4424 (nI cn)) (cMm P Hm cn)) wk) (sCo N O Hm Q cn)) sc) (cF N O Q P Hm Wd R F cn (bg, br, bh, bp)).1) k), .int (R k - F k)]) (rest := []) ⟨hx, hb, hml, hown, hts⟩ (kX5_mix l dC dI cI cV cW (cDs R F Q (dh (dh (dh (dh (dh (dh 4424 (nI cn)) (cMm P Hm cn)) wk) (sCo N O Hm Q cn)) sc) (cF N O Q P Hm Wd R F cn (bg, br, bh, bp)).1) k) (R k - F k)) (va_cwS 2 hts gX5_digest_X5_mix rfl rfl rfl hdX5_mix ⟨Nat.le_of_ble_eq_true rfl, Nat.le_of_ble_eq_true rfl⟩) (pR_S hK hP [] rfl) rfl rfl hl.1 rfl (lv_room (Nat.le_of_ble_eq_true rfl)) dX5_digest_73 ⟨Nat.zero_le _, Nat.zero_le _⟩) (fun r_73 hr_ => ?_)
    subst hr_
    refine lv_lstore_n (lv' := [(1, .long (dh (cDs R F Q (dh (dh (dh (dh (dh (dh 4424 (nI cn)) (cMm P Hm cn)) wk) (sCo N O Hm Q cn)) sc) (cF N O Q P Hm Wd R F cn (bg, br, bh, bp)).1) k) (R k - F k))), (0, .ref v), (3, .int (nI k))]) hx hb dX5_digest_76 rfl hl (by decide) rfl (fun ls hl => ?_)
    refine lv_lload_n hx hb dX5_digest_77 rfl (lv_at hl 0 rfl) ?_
    refine lv_aload_n hx hb dX5_digest_78 rfl (lv_at hl 1 rfl) ?_
    refine va_get (D := (dC, dI)) (ci := 3) (v := .ref h) (C := RX5) (T := TX5) (N := 6) hx hb hts hiX5 hown hK hP 0 rfl rfl 0 (by decide) hf10 (fun _ h9 => h9) rfl dX5_digest_79 ?_
    refine va_get (D := (dC, dI)) (ci := 2) (v := .ref vQ) (C := RX3) (T := TX3) (N := 11) hx hb hts hiX3 hown hK hP 1 rfl rfl 1 (by decide) hf65 (fun _ h9 => h9) rfl dX5_digest_82 ?_
    refine lv_iload_n hx hb dX5_digest_85 rfl (lv_at hl 2 rfl) ?_
    refine n_iald hx hb hK hP 4 0 rfl rfl (show k < 6 from by omega) (by decide) dX5_digest_86 ?_
    refine vp_callSl (W.runS (As := [.long (dh (cDs R F Q (dh (dh (dh (dh (dh (dh 4424 (nI cn)) (cMm P Hm cn)) wk) (sCo N O Hm Q cn)) sc) (cF N O Q P Hm Wd R F cn (bg, br, bh, bp)).1) k) (R k - F k)), .int (Q k)]) (rest := []) ⟨hx, hb, hml, hown, hts⟩ (kX5_mix l dC dI cI cV cW (dh (cDs R F Q (dh (dh (dh (dh (dh (dh 4424 (nI cn)) (cMm P Hm cn)) wk) (sCo N O Hm Q cn)) sc) (cF N O Q P Hm Wd R F cn (bg, br, bh, bp)).1) k) (R k - F k)) (Q k)) (va_cwS 2 hts gX5_digest_X5_mix rfl rfl rfl hdX5_mix ⟨Nat.le_of_ble_eq_true rfl, Nat.le_of_ble_eq_true rfl⟩) (pR_S hK hP [] rfl) rfl rfl hl.1 rfl (lv_room (Nat.le_of_ble_eq_true rfl)) dX5_digest_87 ⟨Nat.zero_le _, Nat.zero_le _⟩) (fun r_87 hr_ => ?_)
    subst hr_
    refine lv_lstore_n (lv' := [(1, .long (dh (dh (cDs R F Q (dh (dh (dh (dh (dh (dh 4424 (nI cn)) (cMm P Hm cn)) wk) (sCo N O Hm Q cn)) sc) (cF N O Q P Hm Wd R F cn (bg, br, bh, bp)).1) k) (R k - F k)) (Q k))), (0, .ref v), (3, .int (nI k))]) hx hb dX5_digest_90 rfl hl (by decide) rfl (fun ls hl => ?_)
    refine lv_iinc (v := (nI (k + 1))) (lv' := [(3, .int (nI (k + 1))), (1, .long (dh (dh (cDs R F Q (dh (dh (dh (dh (dh (dh 4424 (nI cn)) (cMm P Hm cn)) wk) (sCo N O Hm Q cn)) sc) (cF N O Q P Hm Wd R F cn (bg, br, bh, bp)).1) k) (R k - F k)) (Q k))), (0, .ref v)]) hx hb dX5_digest_91 hl (k := 2) rfl (n_inc _ 1) (by decide) rfl (fun ls hl => ?_)
    refine lv_goto (tgt := 58) hx hb dX5_digest_94 (by decide) ?_
    have el_b58_3_1 : (dh (dh (cDs R F Q (dh (dh (dh (dh (dh (dh 4424 (nI cn)) (cMm P Hm cn)) wk) (sCo N O Hm Q cn)) sc) (cF N O Q P Hm Wd R F cn (bg, br, bh, bp)).1) k) (R k - F k)) (Q k)) = (cDs R F Q (dh (dh (dh (dh (dh (dh 4424 (nI cn)) (cMm P Hm cn)) wk) (sCo N O Hm Q cn)) sc) (cF N O Q P Hm Wd R F cn (bg, br, bh, bp)).1) (k + 1)) := by rfl
    exact ih58 (k + 1) H locs ls ⟨by omega, hP, hD, hS, lv_cg (lv_sub hl [2, 1, 0] rfl) (congrArg (fun z_ => ([(0, .ref v), (1, .long z_), (3, .int (nI (k + 1)))] : List (Nat × Value))) el_b58_3_1)⟩ (by first | omega | (dsimp only; omega))
