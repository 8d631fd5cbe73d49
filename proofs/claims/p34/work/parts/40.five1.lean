def dh (h : Int64) (v : Int32) : Int64 := 31 * h + v.toInt64
theorem has_t {cn r : Nat} (hc : cn ≤ 16) (h : r < cn) : sHas (nI r) cn = true := by
  simp only [sHas, Bool.and_eq_true, decide_eq_true_eq]
  exact ⟨nI_pos' (by omega), (nI_ltI (by omega) (by omega)).mpr h⟩
def cRsn (N O Q P Hm R F Wd : Nat → Int32) (r k : Nat) : Int32 := if sMis P Hm r = true then 1 else if P r = nI k then 2 else if R k - F k < Wd r then 3 else if cMg N O Q P r k < nI 1 then 4 else 0
set_option maxHeartbeats 4000000 in
set_option maxRecDepth 100000 in
theorem kX5_requireShelf (l : Launch) (dC : Nat → ClassId) (dI : Nat → Nat → Nat) (cI cV cW : ClassId) (k : Nat) (hk : k < 6) : Met l yX5_requireShelf wsX5_requireShelf ({ frames := 0, cells := 0, slots := 0, locals := 0 }) (pR (dC, dI) (tyS cI cV cW) [.int (nI k)] []) (va_Sv (fun r_ => True)) 0 0 (fun _ => False) := by
  refine Met.ofW (cc := cX5_requireShelf) (maxL := 1) (ret := none) (by decide) rfl ?_
  intro p e s m args below meth c s₁ B hml hv
  obtain ⟨rfl, hP, hK⟩ := hv
  have hx := B.exec
  have hb := B.bytes
  have hr := B.returns
  have hts := atoms_spec (ws := wsX5_requireShelf) B.pre
  have hown : s.vm.findClass RX5 = some m.cls := findClass_of_methodNamed B.named
  have hlocks := B.notSynchronized
  have hl := lv_entry ([.int (nI k)]) (n := 1) (Nat.le_of_ble_eq_true rfl)
  rw [lg_entry_eq]
  generalize (lg_sl ([.int (nI k)]) ++ List.replicate (1 - (lg_sl ([.int (nI k)])).length) Slot.unset).toArray = ls at hl ⊢
  replace hl : lv_has ls 1 [(0, .int (nI k))] := hl
  refine lv_iload_n hx hb dX5_requireShelf_0 rfl (lv_at hl 0 rfl) ?_
  refine n_if_lt (tgt := 10) hx hb dX5_requireShelf_1 (by decide) (by omega) (fun c_1 => (by exfalso; exact c_1)) (fun c_1 => ?_)
  refine lv_iload_n hx hb dX5_requireShelf_4 rfl (lv_at hl 0 rfl) ?_
  refine lv_bipush (v := (nI 6)) hx hb dX5_requireShelf_5 (by decide) ?_
  refine n_icmp_lt (tgt := 20) hx hb dX5_requireShelf_7 (by decide) (by omega) (by omega) (fun c_7 => ?_) (fun c_7 => (by exfalso; omega))
  exact W.vret hx hb hr (fun t ht hW => ⟨rfl, trivial, ht⟩) (fun q hq => absurd hq List.not_mem_nil) dX5_requireShelf_20
theorem hdX3_hasRecord : yX3_hasRecord.cls = RX3 ∧ yX3_hasRecord.cls ≠ "java/lang/invoke/MethodHandle" ∧ yX3_hasRecord.cls ≠ "java/lang/invoke/VarHandle" ∧ (parseMethodDescriptor yX3_hasRecord.desc).map (fun d => d.parameters.length) = some 1 := by decide +kernel
set_option maxHeartbeats 4000000 in
set_option maxRecDepth 100000 in
theorem kX5_requireRecord (l : Launch) (dC : Nat → ClassId) (dI : Nat → Nat → Nat) (cI cV cW : ClassId) (v : Nat) (h : Nat) (g : Nat) (bs : Nat) (x : Nat) (sv : Nat) (sn : Int32) (vR : Nat) (vQ : Nat) (vF : Nat) (vW : Nat) (vP : Nat) (vH : Nat) (vN : Nat) (vO : Nat) (cn : Nat) (wk : Int32) (sc : Int32) (r : Nat) (hc : cn ≤ 16) (hr_1 : r < cn) : Met l yX5_requireRecord wsX5_requireRecord ({ frames := 1, cells := 0, slots := 0, locals := 21 }) (pR (dC, dI) (tyS cI cV cW) [.ref v, .int (nI r)] [(v, .inr (3, [.ref h, .ref g, .ref bs, .ref x, .ref sv, .int sn])), (h, .inr (2, [.ref vR, .ref vQ, .ref vF, .ref vW, .ref vP, .ref vH, .ref vN, .ref vO, .int (nI cn), .int wk, .int sc]))]) (va_Sv (fun r_ => True)) 0 0 (fun _ => False) := by
  refine Met.ofW (cc := cX5_requireRecord) (maxL := 2) (ret := none) (by decide) rfl ?_
  intro p e s m args below meth c s₁ B hml hv
  obtain ⟨rfl, hP, hK⟩ := hv
  have hx := B.exec
  have hb := B.bytes
  have hr := B.returns
  have hts := atoms_spec (ws := wsX5_requireRecord) B.pre
  have hown : s.vm.findClass RX5 = some m.cls := findClass_of_methodNamed B.named
  have hlocks := B.notSynchronized
  have hf10 := hts (.fieldLink RX5 10 "VaultShelves" "now" "LVaultShelves$Vault;") (by decide +kernel)
  have hiX3 : ∀ w ∈ u_ws RX3 TX3 11, w ∈ wsX5_requireRecord := by decide +kernel
  have hiX5 : ∀ w ∈ u_ws RX5 TX5 6, w ∈ wsX5_requireRecord := by decide +kernel
  have hl := lv_entry ([.ref v, .int (nI r)]) (n := 2) (Nat.le_of_ble_eq_true rfl)
  rw [lg_entry_eq]
  generalize (lg_sl ([.ref v, .int (nI r)]) ++ List.replicate (2 - (lg_sl ([.ref v, .int (nI r)])).length) Slot.unset).toArray = ls at hl ⊢
  replace hl : lv_has ls 2 [(0, .ref v), (1, .int (nI r))] := hl
  refine lv_aload_n hx hb dX5_requireRecord_0 rfl (lv_at hl 0 rfl) ?_
  refine va_get (D := (dC, dI)) (ci := 3) (v := .ref h) (C := RX5) (T := TX5) (N := 6) hx hb hts hiX5 hown hK hP 0 rfl rfl 0 (by decide) hf10 (fun _ h9 => h9) rfl dX5_requireRecord_1 ?_
  refine lv_iload_n hx hb dX5_requireRecord_4 rfl (lv_at hl 1 rfl) ?_
  refine vp_callSi (W.runV (As := [.int (nI r)]) (rest := []) ⟨hx, hb, hml, hown, hts⟩ (kX3_hasRecord l dC dI cI cV cW h vR vQ vF vW vP vH vN vO cn wk sc (nI r) (hc)) (cwV 1 hts gX5_requireRecord_X3_hasRecord rfl rfl rfl hdX3_hasRecord ⟨Nat.le_of_ble_eq_true rfl, Nat.le_of_ble_eq_true rfl⟩) (pR_V hK hP 1 2 rfl rfl rfl [1] rfl) rfl rfl hl.1 rfl (lv_room (Nat.le_of_ble_eq_true rfl)) dX5_requireRecord_5 ⟨Nat.zero_le _, Nat.zero_le _⟩) (fun r_5 hr_ => ?_)
  subst hr_
  refine b_if_ne (tgt := 21) hx hb dX5_requireRecord_8 (by decide) (fun c_8 => ?_) (fun c_8 => (by exfalso; exact absurd c_8 (by rw [has_t hc hr_1]; decide)))
  exact W.vret hx hb hr (fun t ht hW => ⟨rfl, trivial, ht⟩) (fun q hq => absurd hq List.not_mem_nil) dX5_requireRecord_21
set_option maxHeartbeats 4000000 in
set_option maxRecDepth 100000 in
theorem kX5_requireWidth (l : Launch) (dC : Nat → ClassId) (dI : Nat → Nat → Nat) (cI cV cW : ClassId) (w : Nat) (hw : 1 ≤ w ∧ w ≤ 30) : Met l yX5_requireWidth wsX5_requireWidth ({ frames := 0, cells := 0, slots := 0, locals := 0 }) (pR (dC, dI) (tyS cI cV cW) [.int (nI w)] []) (va_Sv (fun r_ => True)) 0 0 (fun _ => False) := by
  refine Met.ofW (cc := cX5_requireWidth) (maxL := 1) (ret := none) (by decide) rfl ?_
  intro p e s m args below meth c s₁ B hml hv
  obtain ⟨rfl, hP, hK⟩ := hv
  have hx := B.exec
  have hb := B.bytes
  have hr := B.returns
  have hts := atoms_spec (ws := wsX5_requireWidth) B.pre
  have hown : s.vm.findClass RX5 = some m.cls := findClass_of_methodNamed B.named
  have hlocks := B.notSynchronized
  have hl := lv_entry ([.int (nI w)]) (n := 1) (Nat.le_of_ble_eq_true rfl)
  rw [lg_entry_eq]
  generalize (lg_sl ([.int (nI w)]) ++ List.replicate (1 - (lg_sl ([.int (nI w)])).length) Slot.unset).toArray = ls at hl ⊢
  replace hl : lv_has ls 1 [(0, .int (nI w))] := hl
  refine lv_iload_n hx hb dX5_requireWidth_0 rfl (lv_at hl 0 rfl) ?_
  refine lv_iconst (v := (nI 1)) hx hb dX5_requireWidth_1 (by decide) ?_
  refine n_icmp_lt (tgt := 11) hx hb dX5_requireWidth_2 (by decide) (by omega) (by omega) (fun c_2 => (by exfalso; omega)) (fun c_2 => ?_)
  refine lv_iload_n hx hb dX5_requireWidth_5 rfl (lv_at hl 0 rfl) ?_
  refine lv_bipush (v := (nI 30)) hx hb dX5_requireWidth_6 (by decide) ?_
  refine n_icmp_le (tgt := 21) hx hb dX5_requireWidth_8 (by decide) (by omega) (by omega) (fun c_8 => ?_) (fun c_8 => (by exfalso; omega))
  exact W.vret hx hb hr (fun t ht hW => ⟨rfl, trivial, ht⟩) (fun q hq => absurd hq List.not_mem_nil) dX5_requireWidth_21
set_option maxHeartbeats 4000000 in
set_option maxRecDepth 100000 in
theorem kX5_requireSteps (l : Launch) (dC : Nat → ClassId) (dI : Nat → Nat → Nat) (cI cV cW : ClassId) (most : Nat) (hm : 1 ≤ most ∧ most ≤ 20) : Met l yX5_requireSteps wsX5_requireSteps ({ frames := 0, cells := 0, slots := 0, locals := 0 }) (pR (dC, dI) (tyS cI cV cW) [.int (nI most)] []) (va_Sv (fun r_ => True)) 0 0 (fun _ => False) := by
  refine Met.ofW (cc := cX5_requireSteps) (maxL := 1) (ret := none) (by decide) rfl ?_
  intro p e s m args below meth c s₁ B hml hv
  obtain ⟨rfl, hP, hK⟩ := hv
  have hx := B.exec
  have hb := B.bytes
  have hr := B.returns
  have hts := atoms_spec (ws := wsX5_requireSteps) B.pre
  have hown : s.vm.findClass RX5 = some m.cls := findClass_of_methodNamed B.named
  have hlocks := B.notSynchronized
  have hl := lv_entry ([.int (nI most)]) (n := 1) (Nat.le_of_ble_eq_true rfl)
  rw [lg_entry_eq]
  generalize (lg_sl ([.int (nI most)]) ++ List.replicate (1 - (lg_sl ([.int (nI most)])).length) Slot.unset).toArray = ls at hl ⊢
  replace hl : lv_has ls 1 [(0, .int (nI most))] := hl
  refine lv_iload_n hx hb dX5_requireSteps_0 rfl (lv_at hl 0 rfl) ?_
  refine lv_iconst (v := (nI 1)) hx hb dX5_requireSteps_1 (by decide) ?_
  refine n_icmp_lt (tgt := 11) hx hb dX5_requireSteps_2 (by decide) (by omega) (by omega) (fun c_2 => (by exfalso; omega)) (fun c_2 => ?_)
  refine lv_iload_n hx hb dX5_requireSteps_5 rfl (lv_at hl 0 rfl) ?_
  refine lv_bipush (v := (nI 20)) hx hb dX5_requireSteps_6 (by decide) ?_
  refine n_icmp_le (tgt := 21) hx hb dX5_requireSteps_8 (by decide) (by omega) (by omega) (fun c_8 => ?_) (fun c_8 => (by exfalso; omega))
  exact W.vret hx hb hr (fun t ht hW => ⟨rfl, trivial, ht⟩) (fun q hq => absurd hq List.not_mem_nil) dX5_requireSteps_21
set_option maxHeartbeats 4000000 in
set_option maxRecDepth 100000 in
theorem kX5_records (l : Launch) (dC : Nat → ClassId) (dI : Nat → Nat → Nat) (cI cV cW : ClassId) (v : Nat) (h : Nat) (g : Nat) (bs : Nat) (x : Nat) (sv : Nat) (sn : Int32) (vR : Nat) (vQ : Nat) (vF : Nat) (vW : Nat) (vP : Nat) (vH : Nat) (vN : Nat) (vO : Nat) (cn : Nat) (wk : Int32) (sc : Int32)  : Met l yX5_records wsX5_records ({ frames := 0, cells := 0, slots := 0, locals := 0 }) (pR (dC, dI) (tyS cI cV cW) [.ref v] [(v, .inr (3, [.ref h, .ref g, .ref bs, .ref x, .ref sv, .int sn])), (h, .inr (2, [.ref vR, .ref vQ, .ref vF, .ref vW, .ref vP, .ref vH, .ref vN, .ref vO, .int (nI cn), .int wk, .int sc]))]) (vp_Si (fun r_ => r_ = (nI cn))) 0 0 (fun _ => False) := by
  refine Met.ofW (cc := cX5_records) (maxL := 1) (ret := (some .int)) (by decide) rfl ?_
  intro p e s m args below meth c s₁ B hml hv
  obtain ⟨rfl, hP, hK⟩ := hv
  have hx := B.exec
  have hb := B.bytes
  have hr := B.returns
  have hts := atoms_spec (ws := wsX5_records) B.pre
  have hown : s.vm.findClass RX5 = some m.cls := findClass_of_methodNamed B.named
  have hlocks := B.notSynchronized
  have hf10 := hts (.fieldLink RX5 10 "VaultShelves" "now" "LVaultShelves$Vault;") (by decide +kernel)
  have hf91 := hts (.fieldLink RX5 91 "VaultShelves$Vault" "count" "I") (by decide +kernel)
  have hiX3 : ∀ w ∈ u_ws RX3 TX3 11, w ∈ wsX5_records := by decide +kernel
  have hiX5 : ∀ w ∈ u_ws RX5 TX5 6, w ∈ wsX5_records := by decide +kernel
  have hl := lv_entry ([.ref v]) (n := 1) (Nat.le_of_ble_eq_true rfl)
  rw [lg_entry_eq]
  generalize (lg_sl ([.ref v]) ++ List.replicate (1 - (lg_sl ([.ref v])).length) Slot.unset).toArray = ls at hl ⊢
  replace hl : lv_has ls 1 [(0, .ref v)] := hl
  refine lv_aload_n hx hb dX5_records_0 rfl (lv_at hl 0 rfl) ?_
  refine va_get (D := (dC, dI)) (ci := 3) (v := .ref h) (C := RX5) (T := TX5) (N := 6) hx hb hts hiX5 hown hK hP 0 rfl rfl 0 (by decide) hf10 (fun _ h9 => h9) rfl dX5_records_1 ?_
  refine va_get (D := (dC, dI)) (ci := 2) (v := .int (nI cn)) (C := RX3) (T := TX3) (N := 11) hx hb hts hiX3 hown hK hP 1 rfl rfl 8 (by decide) hf91 (fun _ h9 => h9) rfl dX5_records_4 ?_
  exact W.iret (v := (nI cn)) hx hb hr (fun t ht hW => ⟨_, rfl, rfl, ht⟩) (fun q hq => absurd hq List.not_mem_nil) dX5_records_7
set_option maxHeartbeats 4000000 in
set_option maxRecDepth 100000 in
theorem kX5_walked (l : Launch) (dC : Nat → ClassId) (dI : Nat → Nat → Nat) (cI cV cW : ClassId) (v : Nat) (h : Nat) (g : Nat) (bs : Nat) (x : Nat) (sv : Nat) (sn : Int32) (vR : Nat) (vQ : Nat) (vF : Nat) (vW : Nat) (vP : Nat) (vH : Nat) (vN : Nat) (vO : Nat) (cn : Nat) (wk : Int32) (sc : Int32)  : Met l yX5_walked wsX5_walked ({ frames := 0, cells := 0, slots := 0, locals := 0 }) (pR (dC, dI) (tyS cI cV cW) [.ref v] [(v, .inr (3, [.ref h, .ref g, .ref bs, .ref x, .ref sv, .int sn])), (h, .inr (2, [.ref vR, .ref vQ, .ref vF, .ref vW, .ref vP, .ref vH, .ref vN, .ref vO, .int (nI cn), .int wk, .int sc]))]) (vp_Si (fun r_ => r_ = wk)) 0 0 (fun _ => False) := by
  refine Met.ofW (cc := cX5_walked) (maxL := 1) (ret := (some .int)) (by decide) rfl ?_
  intro p e s m args below meth c s₁ B hml hv
  obtain ⟨rfl, hP, hK⟩ := hv
  have hx := B.exec
  have hb := B.bytes
  have hr := B.returns
  have hts := atoms_spec (ws := wsX5_walked) B.pre
  have hown : s.vm.findClass RX5 = some m.cls := findClass_of_methodNamed B.named
  have hlocks := B.notSynchronized
  have hf10 := hts (.fieldLink RX5 10 "VaultShelves" "now" "LVaultShelves$Vault;") (by decide +kernel)
  have hf125 := hts (.fieldLink RX5 125 "VaultShelves$Vault" "walkSum" "I") (by decide +kernel)
  have hiX3 : ∀ w ∈ u_ws RX3 TX3 11, w ∈ wsX5_walked := by decide +kernel
  have hiX5 : ∀ w ∈ u_ws RX5 TX5 6, w ∈ wsX5_walked := by decide +kernel
  have hl := lv_entry ([.ref v]) (n := 1) (Nat.le_of_ble_eq_true rfl)
  rw [lg_entry_eq]
  generalize (lg_sl ([.ref v]) ++ List.replicate (1 - (lg_sl ([.ref v])).length) Slot.unset).toArray = ls at hl ⊢
  replace hl : lv_has ls 1 [(0, .ref v)] := hl
  refine lv_aload_n hx hb dX5_walked_0 rfl (lv_at hl 0 rfl) ?_
  refine va_get (D := (dC, dI)) (ci := 3) (v := .ref h) (C := RX5) (T := TX5) (N := 6) hx hb hts hiX5 hown hK hP 0 rfl rfl 0 (by decide) hf10 (fun _ h9 => h9) rfl dX5_walked_1 ?_
  refine va_get (D := (dC, dI)) (ci := 2) (v := .int wk) (C := RX3) (T := TX3) (N := 11) hx hb hts hiX3 hown hK hP 1 rfl rfl 9 (by decide) hf125 (fun _ h9 => h9) rfl dX5_walked_4 ?_
  exact W.iret (v := wk) hx hb hr (fun t ht hW => ⟨_, rfl, rfl, ht⟩) (fun q hq => absurd hq List.not_mem_nil) dX5_walked_7
set_option maxHeartbeats 4000000 in
set_option maxRecDepth 100000 in
theorem kX5_steps (l : Launch) (dC : Nat → ClassId) (dI : Nat → Nat → Nat) (cI cV cW : ClassId) (v : Nat) (h : Nat) (g : Nat) (bs : Nat) (x : Nat) (sv : Nat) (sn : Int32) (vR : Nat) (vQ : Nat) (vF : Nat) (vW : Nat) (vP : Nat) (vH : Nat) (vN : Nat) (vO : Nat) (cn : Nat) (wk : Int32) (sc : Int32)  : Met l yX5_steps wsX5_steps ({ frames := 0, cells := 0, slots := 0, locals := 0 }) (pR (dC, dI) (tyS cI cV cW) [.ref v] [(v, .inr (3, [.ref h, .ref g, .ref bs, .ref x, .ref sv, .int sn])), (h, .inr (2, [.ref vR, .ref vQ, .ref vF, .ref vW, .ref vP, .ref vH, .ref vN, .ref vO, .int (nI cn), .int wk, .int sc]))]) (vp_Si (fun r_ => r_ = sc)) 0 0 (fun _ => False) := by
  refine Met.ofW (cc := cX5_steps) (maxL := 1) (ret := (some .int)) (by decide) rfl ?_
  intro p e s m args below meth c s₁ B hml hv
  obtain ⟨rfl, hP, hK⟩ := hv
  have hx := B.exec
  have hb := B.bytes
  have hr := B.returns
  have hts := atoms_spec (ws := wsX5_steps) B.pre
  have hown : s.vm.findClass RX5 = some m.cls := findClass_of_methodNamed B.named
  have hlocks := B.notSynchronized
  have hf10 := hts (.fieldLink RX5 10 "VaultShelves" "now" "LVaultShelves$Vault;") (by decide +kernel)
  have hf138 := hts (.fieldLink RX5 138 "VaultShelves$Vault" "stepCount" "I") (by decide +kernel)
  have hiX3 : ∀ w ∈ u_ws RX3 TX3 11, w ∈ wsX5_steps := by decide +kernel
  have hiX5 : ∀ w ∈ u_ws RX5 TX5 6, w ∈ wsX5_steps := by decide +kernel
  have hl := lv_entry ([.ref v]) (n := 1) (Nat.le_of_ble_eq_true rfl)
  rw [lg_entry_eq]
  generalize (lg_sl ([.ref v]) ++ List.replicate (1 - (lg_sl ([.ref v])).length) Slot.unset).toArray = ls at hl ⊢
  replace hl : lv_has ls 1 [(0, .ref v)] := hl
  refine lv_aload_n hx hb dX5_steps_0 rfl (lv_at hl 0 rfl) ?_
  refine va_get (D := (dC, dI)) (ci := 3) (v := .ref h) (C := RX5) (T := TX5) (N := 6) hx hb hts hiX5 hown hK hP 0 rfl rfl 0 (by decide) hf10 (fun _ h9 => h9) rfl dX5_steps_1 ?_
  refine va_get (D := (dC, dI)) (ci := 2) (v := .int sc) (C := RX3) (T := TX3) (N := 11) hx hb hts hiX3 hown hK hP 1 rfl rfl 10 (by decide) hf138 (fun _ h9 => h9) rfl dX5_steps_4 ?_
  exact W.iret (v := sc) hx hb hr (fun t ht hW => ⟨_, rfl, rfl, ht⟩) (fun q hq => absurd hq List.not_mem_nil) dX5_steps_7
set_option maxHeartbeats 4000000 in
set_option maxRecDepth 100000 in
theorem kX5_savedStates (l : Launch) (dC : Nat → ClassId) (dI : Nat → Nat → Nat) (cI cV cW : ClassId) (v : Nat) (h : Nat) (g : Nat) (bs : Nat) (x : Nat) (sv : Nat) (sn : Nat)  : Met l yX5_savedStates wsX5_savedStates ({ frames := 0, cells := 0, slots := 0, locals := 0 }) (pR (dC, dI) (tyS cI cV cW) [.ref v] [(v, .inr (3, [.ref h, .ref g, .ref bs, .ref x, .ref sv, .int (nI sn)]))]) (vp_Si (fun r_ => r_ = (nI sn))) 0 0 (fun _ => False) := by
  refine Met.ofW (cc := cX5_savedStates) (maxL := 1) (ret := (some .int)) (by decide) rfl ?_
  intro p e s m args below meth c s₁ B hml hv
  obtain ⟨rfl, hP, hK⟩ := hv
  have hx := B.exec
  have hb := B.bytes
  have hr := B.returns
  have hts := atoms_spec (ws := wsX5_savedStates) B.pre
  have hown : s.vm.findClass RX5 = some m.cls := findClass_of_methodNamed B.named
  have hlocks := B.notSynchronized
  have hf190 := hts (.fieldLink RX5 190 "VaultShelves" "savedCount" "I") (by decide +kernel)
  have hiX5 : ∀ w ∈ u_ws RX5 TX5 6, w ∈ wsX5_savedStates := by decide +kernel
  have hl := lv_entry ([.ref v]) (n := 1) (Nat.le_of_ble_eq_true rfl)
  rw [lg_entry_eq]
  generalize (lg_sl ([.ref v]) ++ List.replicate (1 - (lg_sl ([.ref v])).length) Slot.unset).toArray = ls at hl ⊢
  replace hl : lv_has ls 1 [(0, .ref v)] := hl
  refine lv_aload_n hx hb dX5_savedStates_0 rfl (lv_at hl 0 rfl) ?_
  refine va_get (D := (dC, dI)) (ci := 3) (v := .int (nI sn)) (C := RX5) (T := TX5) (N := 6) hx hb hts hiX5 hown hK hP 0 rfl rfl 5 (by decide) hf190 (fun _ h9 => h9) rfl dX5_savedStates_1 ?_
  exact W.iret (v := (nI sn)) hx hb hr (fun t ht hW => ⟨_, rfl, rfl, ht⟩) (fun q hq => absurd hq List.not_mem_nil) dX5_savedStates_4
theorem hdX3_countMisplaced : yX3_countMisplaced.cls = RX3 ∧ yX3_countMisplaced.cls ≠ "java/lang/invoke/MethodHandle" ∧ yX3_countMisplaced.cls ≠ "java/lang/invoke/VarHandle" ∧ (parseMethodDescriptor yX3_countMisplaced.desc).map (fun d => d.parameters.length) = some 0 := by decide +kernel
set_option maxHeartbeats 4000000 in
set_option maxRecDepth 100000 in
theorem kX5_misplaced (l : Launch) (dC : Nat → ClassId) (dI : Nat → Nat → Nat) (cI cV cW : ClassId) (v : Nat) (h : Nat) (g : Nat) (bs : Nat) (x : Nat) (sv : Nat) (sn : Int32) (vR : Nat) (vQ : Nat) (vF : Nat) (vW : Nat) (vP : Nat) (vH : Nat) (vN : Nat) (vO : Nat) (cn : Nat) (wk : Int32) (sc : Int32) (P : Nat → Int32) (Hm : Nat → Int32) (hc : cn ≤ 16) : Met l yX5_misplaced wsX5_misplaced ({ frames := 2, cells := 0, slots := 0, locals := 43 }) (pR (dC, dI) (tyS cI cV cW) [.ref v] [(v, .inr (3, [.ref h, .ref g, .ref bs, .ref x, .ref sv, .int sn])), (h, .inr (2, [.ref vR, .ref vQ, .ref vF, .ref vW, .ref vP, .ref vH, .ref vN, .ref vO, .int (nI cn), .int wk, .int sc])), (vP, .inl (cI, 16, .inl P)), (vH, .inl (cI, 16, .inl Hm))]) (vp_Si (fun r_ => r_ = (cMm P Hm cn))) 0 0 (fun _ => False) := by
  refine Met.ofW (cc := cX5_misplaced) (maxL := 1) (ret := (some .int)) (by decide) rfl ?_
  intro p e s m args below meth c s₁ B hml hv
  obtain ⟨rfl, hP, hK⟩ := hv
  have hx := B.exec
  have hb := B.bytes
  have hr := B.returns
  have hts := atoms_spec (ws := wsX5_misplaced) B.pre
  have hown : s.vm.findClass RX5 = some m.cls := findClass_of_methodNamed B.named
  have hlocks := B.notSynchronized
  have hf10 := hts (.fieldLink RX5 10 "VaultShelves" "now" "LVaultShelves$Vault;") (by decide +kernel)
  have hiX3 : ∀ w ∈ u_ws RX3 TX3 11, w ∈ wsX5_misplaced := by decide +kernel
  have hiX5 : ∀ w ∈ u_ws RX5 TX5 6, w ∈ wsX5_misplaced := by decide +kernel
  have hl := lv_entry ([.ref v]) (n := 1) (Nat.le_of_ble_eq_true rfl)
  rw [lg_entry_eq]
  generalize (lg_sl ([.ref v]) ++ List.replicate (1 - (lg_sl ([.ref v])).length) Slot.unset).toArray = ls at hl ⊢
  replace hl : lv_has ls 1 [(0, .ref v)] := hl
  refine lv_aload_n hx hb dX5_misplaced_0 rfl (lv_at hl 0 rfl) ?_
  refine va_get (D := (dC, dI)) (ci := 3) (v := .ref h) (C := RX5) (T := TX5) (N := 6) hx hb hts hiX5 hown hK hP 0 rfl rfl 0 (by decide) hf10 (fun _ h9 => h9) rfl dX5_misplaced_1 ?_
  refine vp_callSi (W.runV (As := []) (rest := []) ⟨hx, hb, hml, hown, hts⟩ (kX3_countMisplaced l dC dI cI cV cW h vR vQ vF vW vP vH vN vO cn wk sc P Hm (hc)) (cwV 0 hts gX5_misplaced_X3_countMisplaced rfl rfl rfl hdX3_countMisplaced ⟨Nat.le_of_ble_eq_true rfl, Nat.le_of_ble_eq_true rfl⟩) (pR_V hK hP 1 2 rfl rfl rfl [1, 2, 3] rfl) rfl rfl hl.1 rfl (lv_room (Nat.le_of_ble_eq_true rfl)) dX5_misplaced_4 ⟨Nat.zero_le _, Nat.zero_le _⟩) (fun r_4 hr_ => ?_)
  subst hr_
  exact W.iret (v := (cMm P Hm cn)) hx hb hr (fun t ht hW => ⟨_, rfl, rfl, ht⟩) (fun q hq => absurd hq List.not_mem_nil) dX5_misplaced_7
theorem hdX3_totalCost : yX3_totalCost.cls = RX3 ∧ yX3_totalCost.cls ≠ "java/lang/invoke/MethodHandle" ∧ yX3_totalCost.cls ≠ "java/lang/invoke/VarHandle" ∧ (parseMethodDescriptor yX3_totalCost.desc).map (fun d => d.parameters.length) = some 0 := by decide +kernel
set_option maxHeartbeats 4000000 in
set_option maxRecDepth 100000 in
theorem kX5_cost (l : Launch) (dC : Nat → ClassId) (dI : Nat → Nat → Nat) (cI cV cW : ClassId) (v : Nat) (h : Nat) (g : Nat) (bs : Nat) (x : Nat) (sv : Nat) (sn : Int32) (vR : Nat) (vQ : Nat) (vF : Nat) (vW : Nat) (vP : Nat) (vH : Nat) (vN : Nat) (vO : Nat) (cn : Nat) (wk : Int32) (sc : Int32) (N : Nat → Int32) (O : Nat → Int32) (Hm : Nat → Int32) (Q : Nat → Int32) (P : Nat → Int32) (hV : VO P Hm cn) : Met l yX5_cost wsX5_cost ({ frames := 2, cells := 0, slots := 0, locals := 43 }) (pR (dC, dI) (tyS cI cV cW) [.ref v] [(v, .inr (3, [.ref h, .ref g, .ref bs, .ref x, .ref sv, .int sn])), (h, .inr (2, [.ref vR, .ref vQ, .ref vF, .ref vW, .ref vP, .ref vH, .ref vN, .ref vO, .int (nI cn), .int wk, .int sc])), (vN, .inl (cI, 16, .inl N)), (vO, .inl (cI, 16, .inl O)), (vH, .inl (cI, 16, .inl Hm)), (vQ, .inl (cI, 6, .inl Q)), (vP, .inl (cI, 16, .inl P))]) (vp_Si (fun r_ => r_ = (sCo N O Hm Q cn))) 0 0 (fun _ => False) := by
  refine Met.ofW (cc := cX5_cost) (maxL := 1) (ret := (some .int)) (by decide) rfl ?_
  intro p e s m args below meth c s₁ B hml hv
  obtain ⟨rfl, hP, hK⟩ := hv
  have hx := B.exec
  have hb := B.bytes
  have hr := B.returns
  have hts := atoms_spec (ws := wsX5_cost) B.pre
  have hown : s.vm.findClass RX5 = some m.cls := findClass_of_methodNamed B.named
  have hlocks := B.notSynchronized
  have hf10 := hts (.fieldLink RX5 10 "VaultShelves" "now" "LVaultShelves$Vault;") (by decide +kernel)
  have hiX3 : ∀ w ∈ u_ws RX3 TX3 11, w ∈ wsX5_cost := by decide +kernel
  have hiX5 : ∀ w ∈ u_ws RX5 TX5 6, w ∈ wsX5_cost := by decide +kernel
  have hl := lv_entry ([.ref v]) (n := 1) (Nat.le_of_ble_eq_true rfl)
  rw [lg_entry_eq]
  generalize (lg_sl ([.ref v]) ++ List.replicate (1 - (lg_sl ([.ref v])).length) Slot.unset).toArray = ls at hl ⊢
  replace hl : lv_has ls 1 [(0, .ref v)] := hl
  refine lv_aload_n hx hb dX5_cost_0 rfl (lv_at hl 0 rfl) ?_
  refine va_get (D := (dC, dI)) (ci := 3) (v := .ref h) (C := RX5) (T := TX5) (N := 6) hx hb hts hiX5 hown hK hP 0 rfl rfl 0 (by decide) hf10 (fun _ h9 => h9) rfl dX5_cost_1 ?_
  refine vp_callSi (W.runV (As := []) (rest := []) ⟨hx, hb, hml, hown, hts⟩ (kX3_totalCost l dC dI cI cV cW h vR vQ vF vW vP vH vN vO cn wk sc N O Hm Q P (hV)) (cwV 0 hts gX5_cost_X3_totalCost rfl rfl rfl hdX3_totalCost ⟨Nat.le_of_ble_eq_true rfl, Nat.le_of_ble_eq_true rfl⟩) (pR_V hK hP 1 2 rfl rfl rfl [1, 2, 3, 4, 5, 6] rfl) rfl rfl hl.1 rfl (lv_room (Nat.le_of_ble_eq_true rfl)) dX5_cost_4 ⟨Nat.zero_le _, Nat.zero_le _⟩) (fun r_4 hr_ => ?_)
  subst hr_
  exact W.iret (v := (sCo N O Hm Q cn)) hx hb hr (fun t ht hW => ⟨_, rfl, rfl, ht⟩) (fun q hq => absurd hq List.not_mem_nil) dX5_cost_7
set_option maxHeartbeats 4000000 in
set_option maxRecDepth 100000 in
theorem kX5_bestGain (l : Launch) (dC : Nat → ClassId) (dI : Nat → Nat → Nat) (cI cV cW : ClassId) (sz : Nat) (v : Nat) (h : Nat) (g : Nat) (bs : Nat) (x : Nat) (sv : Nat) (sn : Int32) (vR : Nat) (vQ : Nat) (vF : Nat) (vW : Nat) (vP : Nat) (vH : Nat) (vN : Nat) (vO : Nat) (cn : Nat) (wk : Int32) (sc : Int32) (N : Nat → Int32) (O : Nat → Int32) (Q : Nat → Int32) (P : Nat → Int32) (Hm : Nat → Int32) (Wd : Nat → Int32) (R : Nat → Int32) (F : Nat → Int32) (bg : Int32) (br : Int32) (bh : Int32) (bp : Int32) (hV : VO P Hm cn) : Met l yX5_bestGain wsX5_bestGain ({ frames := 4, cells := 0, slots := 0, locals := 89 }) (pW (dC, dI) (tyS cI cV cW) sz [.ref v] [(v, .inr (3, [.ref h, .ref g, .ref bs, .ref x, .ref sv, .int sn])), (h, .inr (2, [.ref vR, .ref vQ, .ref vF, .ref vW, .ref vP, .ref vH, .ref vN, .ref vO, .int (nI cn), .int wk, .int sc])), (vN, .inl (cI, 16, .inl N)), (vO, .inl (cI, 16, .inl O)), (vQ, .inl (cI, 6, .inl Q)), (vP, .inl (cI, 16, .inl P)), (vH, .inl (cI, 16, .inl Hm)), (vW, .inl (cI, 16, .inl Wd)), (vR, .inl (cI, 6, .inl R)), (vF, .inl (cI, 6, .inl F)), (bs, .inr (1, [.int bg, .int br, .int bh, .int bp]))]) (va_Qi (fun (r_ : Int32) (_ : Unit) => r_ = ((cF N O Q P Hm Wd R F cn (bg, br, bh, bp)).1)) (fun (_ : Unit) t => qB (dC, dI) (tyS cI cV cW) (va_A [(v, .inr (3, [.ref h, .ref g, .ref bs, .ref x, .ref sv, .int sn])), (h, .inr (2, [.ref vR, .ref vQ, .ref vF, .ref vW, .ref vP, .ref vH, .ref vN, .ref vO, .int (nI cn), .int wk, .int sc])), (vN, .inl (cI, 16, .inl N)), (vO, .inl (cI, 16, .inl O)), (vQ, .inl (cI, 6, .inl Q)), (vP, .inl (cI, 16, .inl P)), (vH, .inl (cI, 16, .inl Hm)), (vW, .inl (cI, 16, .inl Wd)), (vR, .inl (cI, 6, .inl R)), (vF, .inl (cI, 6, .inl F)), (bs, .inr (1, [.int bg, .int br, .int bh, .int bp]))] sz) [(v, .inr (3, [.ref h, .ref g, .ref bs, .ref x, .ref sv, .int sn])), (h, .inr (2, [.ref vR, .ref vQ, .ref vF, .ref vW, .ref vP, .ref vH, .ref vN, .ref vO, .int (nI cn), .int wk, .int sc])), (vN, .inl (cI, 16, .inl N)), (vO, .inl (cI, 16, .inl O)), (vQ, .inl (cI, 6, .inl Q)), (vP, .inl (cI, 16, .inl P)), (vH, .inl (cI, 16, .inl Hm)), (vW, .inl (cI, 16, .inl Wd)), (vR, .inl (cI, 6, .inl R)), (vF, .inl (cI, 6, .inl F)), (bs, .inr (1, [.int ((cF N O Q P Hm Wd R F cn (bg, br, bh, bp)).1), .int ((cF N O Q P Hm Wd R F cn (bg, br, bh, bp)).2.1), .int ((cF N O Q P Hm Wd R F cn (bg, br, bh, bp)).2.2.1), .int ((cF N O Q P Hm Wd R F cn (bg, br, bh, bp)).2.2.2)]))] t) (va_A [(v, .inr (3, [.ref h, .ref g, .ref bs, .ref x, .ref sv, .int sn])), (h, .inr (2, [.ref vR, .ref vQ, .ref vF, .ref vW, .ref vP, .ref vH, .ref vN, .ref vO, .int (nI cn), .int wk, .int sc])), (vN, .inl (cI, 16, .inl N)), (vO, .inl (cI, 16, .inl O)), (vQ, .inl (cI, 6, .inl Q)), (vP, .inl (cI, 16, .inl P)), (vH, .inl (cI, 16, .inl Hm)), (vW, .inl (cI, 16, .inl Wd)), (vR, .inl (cI, 6, .inl R)), (vF, .inl (cI, 6, .inl F)), (bs, .inr (1, [.int bg, .int br, .int bh, .int bp]))] sz)) 0 0 (va_A [(v, .inr (3, [.ref h, .ref g, .ref bs, .ref x, .ref sv, .int sn])), (h, .inr (2, [.ref vR, .ref vQ, .ref vF, .ref vW, .ref vP, .ref vH, .ref vN, .ref vO, .int (nI cn), .int wk, .int sc])), (vN, .inl (cI, 16, .inl N)), (vO, .inl (cI, 16, .inl O)), (vQ, .inl (cI, 6, .inl Q)), (vP, .inl (cI, 16, .inl P)), (vH, .inl (cI, 16, .inl Hm)), (vW, .inl (cI, 16, .inl Wd)), (vR, .inl (cI, 6, .inl R)), (vF, .inl (cI, 6, .inl F)), (bs, .inr (1, [.int bg, .int br, .int bh, .int bp]))] sz) := by
  refine Met.ofW (cc := cX5_bestGain) (maxL := 1) (ret := (some .int)) (by decide) rfl ?_
  intro p e s m args below meth c s₁ B hml hv
  obtain ⟨rfl, hsz, hP, hK, hD0⟩ := hv
  have hx := B.exec
  have hb := B.bytes
  have hr := B.returns
  have hts := atoms_spec (ws := wsX5_bestGain) B.pre
  have hown : s.vm.findClass RX5 = some m.cls := findClass_of_methodNamed B.named
  have hlocks := B.notSynchronized
  subst hsz
  have hD := hD0.self (sz := s.heap.size)
  generalize hAe : va_A [(v, .inr (3, [.ref h, .ref g, .ref bs, .ref x, .ref sv, .int sn])), (h, .inr (2, [.ref vR, .ref vQ, .ref vF, .ref vW, .ref vP, .ref vH, .ref vN, .ref vO, .int (nI cn), .int wk, .int sc])), (vN, .inl (cI, 16, .inl N)), (vO, .inl (cI, 16, .inl O)), (vQ, .inl (cI, 6, .inl Q)), (vP, .inl (cI, 16, .inl P)), (vH, .inl (cI, 16, .inl Hm)), (vW, .inl (cI, 16, .inl Wd)), (vR, .inl (cI, 6, .inl R)), (vF, .inl (cI, 6, .inl F)), (bs, .inr (1, [.int bg, .int br, .int bh, .int bp]))] s.heap.size = A at hD ⊢
  have hA : ∀ q : Nat, s.heap.size ≤ q → A q := fun q h => by rw [← hAe]; exact Or.inr h
  have hS : va_S A s.heap s.heap [] := va_S.rf
  refine w_gen hP hS (fun H locs hP hS => ?_)
  have hf10 := hts (.fieldLink RX5 10 "VaultShelves" "now" "LVaultShelves$Vault;") (by decide +kernel)
  have hf22 := hts (.fieldLink RX5 22 "VaultShelves" "best" "LVaultShelves$Step;") (by decide +kernel)
  have hf152 := hts (.fieldLink RX5 152 "VaultShelves$Step" "gain" "I") (by decide +kernel)
  have hiX2 : ∀ w ∈ u_ws RX2 TX2 4, w ∈ wsX5_bestGain := by decide +kernel
  have hiX3 : ∀ w ∈ u_ws RX3 TX3 11, w ∈ wsX5_bestGain := by decide +kernel
  have hiX5 : ∀ w ∈ u_ws RX5 TX5 6, w ∈ wsX5_bestGain := by decide +kernel
  have hl := lv_entry ([.ref v]) (n := 1) (Nat.le_of_ble_eq_true rfl)
  rw [lg_entry_eq]
  generalize (lg_sl ([.ref v]) ++ List.replicate (1 - (lg_sl ([.ref v])).length) Slot.unset).toArray = ls at hl ⊢
  replace hl : lv_has ls 1 [(0, .ref v)] := hl
  refine lv_aload_n hx hb dX5_bestGain_0 rfl (lv_at hl 0 rfl) ?_
  refine va_get (D := (dC, dI)) (ci := 3) (v := .ref h) (C := RX5) (T := TX5) (N := 6) hx hb hts hiX5 hown hK hP 0 rfl rfl 0 (by decide) hf10 (fun _ h9 => h9) rfl dX5_bestGain_1 ?_
  refine lv_aload_n hx hb dX5_bestGain_4 rfl (lv_at hl 0 rfl) ?_
  refine va_get (D := (dC, dI)) (ci := 3) (v := .ref bs) (C := RX5) (T := TX5) (N := 6) hx hb hts hiX5 hown hK hP 0 rfl rfl 2 (by decide) hf22 (fun _ h9 => h9) rfl dX5_bestGain_5 ?_
  have hPc := hP.sub (ws' := [(h, .inr (2, [.ref vR, .ref vQ, .ref vF, .ref vW, .ref vP, .ref vH, .ref vN, .ref vO, .int (nI cn), .int wk, .int sc])), (vN, .inl (cI, 16, .inl N)), (vO, .inl (cI, 16, .inl O)), (vQ, .inl (cI, 6, .inl Q)), (vP, .inl (cI, 16, .inl P)), (vH, .inl (cI, 16, .inl Hm)), (vW, .inl (cI, 16, .inl Wd)), (vR, .inl (cI, 6, .inl R)), (vF, .inl (cI, 6, .inl F)), (bs, .inr (1, [.int bg, .int br, .int bh, .int bp]))]) [1, 2, 3, 4, 5, 6, 7, 8, 9, 10] rfl
  have hDc := hD.sub (ws' := [(h, .inr (2, [.ref vR, .ref vQ, .ref vF, .ref vW, .ref vP, .ref vH, .ref vN, .ref vO, .int (nI cn), .int wk, .int sc])), (vN, .inl (cI, 16, .inl N)), (vO, .inl (cI, 16, .inl O)), (vQ, .inl (cI, 6, .inl Q)), (vP, .inl (cI, 16, .inl P)), (vH, .inl (cI, 16, .inl Hm)), (vW, .inl (cI, 16, .inl Wd)), (vR, .inl (cI, 6, .inl R)), (vF, .inl (cI, 6, .inl F)), (bs, .inr (1, [.int bg, .int br, .int bh, .int bp]))]) [1, 2, 3, 4, 5, 6, 7, 8, 9, 10] (by decide) rfl
  have hFc := va_free (wc := [(h, .inr (2, [.ref vR, .ref vQ, .ref vF, .ref vW, .ref vP, .ref vH, .ref vN, .ref vO, .int (nI cn), .int wk, .int sc])), (vN, .inl (cI, 16, .inl N)), (vO, .inl (cI, 16, .inl O)), (vQ, .inl (cI, 6, .inl Q)), (vP, .inl (cI, 16, .inl P)), (vH, .inl (cI, 16, .inl Hm)), (vW, .inl (cI, 16, .inl Wd)), (vR, .inl (cI, 6, .inl R)), (vF, .inl (cI, 6, .inl F)), (bs, .inr (1, [.int bg, .int br, .int bh, .int bp]))]) hD hS hA [1, 2, 3, 4, 5, 6, 7, 8, 9, 10] rfl
  refine va_callv (va_runV (As := [.ref bs]) (rest := []) ⟨hx, hb, hml, hown, hts⟩ (kX3_findBestStep l dC dI cI cV cW H.size h vR vQ vF vW vP vH vN vO cn wk sc N O Q P Hm Wd R F bs bg br bh bp (hV)) (cwV 1 hts gX5_bestGain_X3_findBestStep rfl rfl rfl hdX3_findBestStep ⟨Nat.le_of_ble_eq_true rfl, Nat.le_of_ble_eq_true rfl⟩) (pW_V hK hP hPc hDc 1 2 rfl rfl rfl) rfl rfl hl.1 rfl (lv_room (Nat.le_of_ble_eq_true rfl)) dX5_bestGain_8 ⟨Nat.zero_le _, Nat.zero_le _⟩) hS (fun q _ h => hFc q h) hFc (fun u_ t_ H1 locs ht_ hvm_ hw_ hB_ hz_ hk_ hS => ?_)
  obtain ⟨hP1, -, hD1⟩ := hB_
  rw [ht_] at hP1
  obtain ⟨hP, hD⟩ := va_join (wr := [(v, .inr (3, [.ref h, .ref g, .ref bs, .ref x, .ref sv, .int sn]))]) (w1 := [(h, .inr (2, [.ref vR, .ref vQ, .ref vF, .ref vW, .ref vP, .ref vH, .ref vN, .ref vO, .int (nI cn), .int wk, .int sc])), (vN, .inl (cI, 16, .inl N)), (vO, .inl (cI, 16, .inl O)), (vQ, .inl (cI, 6, .inl Q)), (vP, .inl (cI, 16, .inl P)), (vH, .inl (cI, 16, .inl Hm)), (vW, .inl (cI, 16, .inl Wd)), (vR, .inl (cI, 6, .inl R)), (vF, .inl (cI, 6, .inl F)), (bs, .inr (1, [.int ((cF N O Q P Hm Wd R F cn (bg, br, bh, bp)).1), .int ((cF N O Q P Hm Wd R F cn (bg, br, bh, bp)).2.1), .int ((cF N O Q P Hm Wd R F cn (bg, br, bh, bp)).2.2.1), .int ((cF N O Q P Hm Wd R F cn (bg, br, bh, bp)).2.2.2)]))]) hP hD [1, 2, 3, 4, 5, 6, 7, 8, 9, 10] [0] rfl rfl (by decide) (by decide) hk_ hFc hP1 hD1
  clear hP1 hD1 hPc hDc hFc hk_ hz_ hvm_ ht_
  generalize H1 = H at hP hS ⊢
  replace hP : va_P (dC, dI) vwCl [(v, .inr (3, [.ref h, .ref g, .ref bs, .ref x, .ref sv, .int sn])), (h, .inr (2, [.ref vR, .ref vQ, .ref vF, .ref vW, .ref vP, .ref vH, .ref vN, .ref vO, .int (nI cn), .int wk, .int sc])), (vN, .inl (cI, 16, .inl N)), (vO, .inl (cI, 16, .inl O)), (vQ, .inl (cI, 6, .inl Q)), (vP, .inl (cI, 16, .inl P)), (vH, .inl (cI, 16, .inl Hm)), (vW, .inl (cI, 16, .inl Wd)), (vR, .inl (cI, 6, .inl R)), (vF, .inl (cI, 6, .inl F)), (bs, .inr (1, [.int ((cF N O Q P Hm Wd R F cn (bg, br, bh, bp)).1), .int ((cF N O Q P Hm Wd R F cn (bg, br, bh, bp)).2.1), .int ((cF N O Q P Hm Wd R F cn (bg, br, bh, bp)).2.2.1), .int ((cF N O Q P Hm Wd R F cn (bg, br, bh, bp)).2.2.2)]))] H := hP
  replace hD : va_D A [(v, .inr (3, [.ref h, .ref g, .ref bs, .ref x, .ref sv, .int sn])), (h, .inr (2, [.ref vR, .ref vQ, .ref vF, .ref vW, .ref vP, .ref vH, .ref vN, .ref vO, .int (nI cn), .int wk, .int sc])), (vN, .inl (cI, 16, .inl N)), (vO, .inl (cI, 16, .inl O)), (vQ, .inl (cI, 6, .inl Q)), (vP, .inl (cI, 16, .inl P)), (vH, .inl (cI, 16, .inl Hm)), (vW, .inl (cI, 16, .inl Wd)), (vR, .inl (cI, 6, .inl R)), (vF, .inl (cI, 6, .inl F)), (bs, .inr (1, [.int ((cF N O Q P Hm Wd R F cn (bg, br, bh, bp)).1), .int ((cF N O Q P Hm Wd R F cn (bg, br, bh, bp)).2.1), .int ((cF N O Q P Hm Wd R F cn (bg, br, bh, bp)).2.2.1), .int ((cF N O Q P Hm Wd R F cn (bg, br, bh, bp)).2.2.2)]))] := hD
  refine W.widen (k := 0) (n := 0) (by decide) (by decide) ?_
  refine lv_aload_n hx hb dX5_bestGain_11 rfl (lv_at hl 0 rfl) ?_
  refine va_get (D := (dC, dI)) (ci := 3) (v := .ref bs) (C := RX5) (T := TX5) (N := 6) hx hb hts hiX5 hown hK hP 0 rfl rfl 2 (by decide) hf22 (fun _ h9 => h9) rfl dX5_bestGain_12 ?_
  refine va_get (D := (dC, dI)) (ci := 1) (v := .int ((cF N O Q P Hm Wd R F cn (bg, br, bh, bp)).1)) (C := RX2) (T := TX2) (N := 4) hx hb hts hiX2 hown hK hP 10 rfl rfl 0 (by decide) hf152 (fun _ h9 => h9) rfl dX5_bestGain_15 ?_
  have hP9 := hP
  have hD9 := hD
  exact W.iret (v := ((cF N O Q P Hm Wd R F cn (bg, br, bh, bp)).1)) hx hb hr (fun t ht hW => ⟨⟨((cF N O Q P Hm Wd R F cn (bg, br, bh, bp)).1), (), rfl, rfl, by rw [ht]; exact hP9, va_K.moved hW.alike hK, hD9⟩, hS.F ht⟩) hS.2.2 dX5_bestGain_18
theorem hdX5_requireRecord : yX5_requireRecord.cls = RX5 ∧ yX5_requireRecord.cls ≠ "java/lang/invoke/MethodHandle" ∧ yX5_requireRecord.cls ≠ "java/lang/invoke/VarHandle" ∧ (parseMethodDescriptor yX5_requireRecord.desc).map (fun d => d.parameters.length) = some 1 := by decide +kernel
set_option maxHeartbeats 4000000 in
set_option maxRecDepth 100000 in
theorem kX5_width (l : Launch) (dC : Nat → ClassId) (dI : Nat → Nat → Nat) (cI cV cW : ClassId) (v : Nat) (h : Nat) (g : Nat) (bs : Nat) (x : Nat) (sv : Nat) (sn : Int32) (vR : Nat) (vQ : Nat) (vF : Nat) (vW : Nat) (vP : Nat) (vH : Nat) (vN : Nat) (vO : Nat) (cn : Nat) (wk : Int32) (sc : Int32) (Wd : Nat → Int32) (r : Nat) (hc : cn ≤ 16) (hr_1 : r < cn) : Met l yX5_width wsX5_width ({ frames := 2, cells := 0, slots := 0, locals := 42 }) (pR (dC, dI) (tyS cI cV cW) [.ref v, .int (nI r)] [(v, .inr (3, [.ref h, .ref g, .ref bs, .ref x, .ref sv, .int sn])), (h, .inr (2, [.ref vR, .ref vQ, .ref vF, .ref vW, .ref vP, .ref vH, .ref vN, .ref vO, .int (nI cn), .int wk, .int sc])), (vW, .inl (cI, 16, .inl Wd))]) (vp_Si (fun r_ => r_ = (Wd r))) 0 0 (fun _ => False) := by
  refine Met.ofW (cc := cX5_width) (maxL := 2) (ret := (some .int)) (by decide) rfl ?_
  intro p e s m args below meth c s₁ B hml hv
  obtain ⟨rfl, hP, hK⟩ := hv
  have hx := B.exec
  have hb := B.bytes
  have hr := B.returns
  have hts := atoms_spec (ws := wsX5_width) B.pre
  have hown : s.vm.findClass RX5 = some m.cls := findClass_of_methodNamed B.named
  have hlocks := B.notSynchronized
  have hf10 := hts (.fieldLink RX5 10 "VaultShelves" "now" "LVaultShelves$Vault;") (by decide +kernel)
  have hf95 := hts (.fieldLink RX5 95 "VaultShelves$Vault" "widths" "[I") (by decide +kernel)
  have hiX3 : ∀ w ∈ u_ws RX3 TX3 11, w ∈ wsX5_width := by decide +kernel
  have hiX5 : ∀ w ∈ u_ws RX5 TX5 6, w ∈ wsX5_width := by decide +kernel
  have hl := lv_entry ([.ref v, .int (nI r)]) (n := 2) (Nat.le_of_ble_eq_true rfl)
  rw [lg_entry_eq]
  generalize (lg_sl ([.ref v, .int (nI r)]) ++ List.replicate (2 - (lg_sl ([.ref v, .int (nI r)])).length) Slot.unset).toArray = ls at hl ⊢
  replace hl : lv_has ls 2 [(0, .ref v), (1, .int (nI r))] := hl
  refine lv_aload_n hx hb dX5_width_0 rfl (lv_at hl 0 rfl) ?_
  refine lv_iload_n hx hb dX5_width_1 rfl (lv_at hl 1 rfl) ?_
  refine va_csv (W.runV (As := [.int (nI r)]) (rest := []) ⟨hx, hb, hml, hown, hts⟩ (kX5_requireRecord l dC dI cI cV cW v h g bs x sv sn vR vQ vF vW vP vH vN vO cn wk sc r (hc) (hr_1)) (cwV 1 hts gX5_width_X5_requireRecord rfl rfl rfl hdX5_requireRecord ⟨Nat.le_of_ble_eq_true rfl, Nat.le_of_ble_eq_true rfl⟩) (pR_V hK hP 0 3 rfl rfl rfl [0, 1] rfl) rfl rfl hl.1 rfl (lv_room (Nat.le_of_ble_eq_true rfl)) dX5_width_2 ⟨Nat.zero_le _, Nat.zero_le _⟩) (fun _ => ?_)
  refine lv_aload_n hx hb dX5_width_5 rfl (lv_at hl 0 rfl) ?_
  refine va_get (D := (dC, dI)) (ci := 3) (v := .ref h) (C := RX5) (T := TX5) (N := 6) hx hb hts hiX5 hown hK hP 0 rfl rfl 0 (by decide) hf10 (fun _ h9 => h9) rfl dX5_width_6 ?_
  refine va_get (D := (dC, dI)) (ci := 2) (v := .ref vW) (C := RX3) (T := TX3) (N := 11) hx hb hts hiX3 hown hK hP 1 rfl rfl 3 (by decide) hf95 (fun _ h9 => h9) rfl dX5_width_9 ?_
  refine lv_iload_n hx hb dX5_width_12 rfl (lv_at hl 1 rfl) ?_
  refine n_iald hx hb hK hP 2 0 rfl rfl (show r < 16 from by omega) (by decide) dX5_width_13 ?_
  exact W.iret (v := (Wd r)) hx hb hr (fun t ht hW => ⟨_, rfl, rfl, ht⟩) (fun q hq => absurd hq List.not_mem_nil) dX5_width_14
set_option maxHeartbeats 4000000 in
set_option maxRecDepth 100000 in
theorem kX5_shelfOf (l : Launch) (dC : Nat → ClassId) (dI : Nat → Nat → Nat) (cI cV cW : ClassId) (v : Nat) (h : Nat) (g : Nat) (bs : Nat) (x : Nat) (sv : Nat) (sn : Int32) (vR : Nat) (vQ : Nat) (vF : Nat) (vW : Nat) (vP : Nat) (vH : Nat) (vN : Nat) (vO : Nat) (cn : Nat) (wk : Int32) (sc : Int32) (P : Nat → Int32) (r : Nat) (hc : cn ≤ 16) (hr_1 : r < cn) : Met l yX5_shelfOf wsX5_shelfOf ({ frames := 2, cells := 0, slots := 0, locals := 42 }) (pR (dC, dI) (tyS cI cV cW) [.ref v, .int (nI r)] [(v, .inr (3, [.ref h, .ref g, .ref bs, .ref x, .ref sv, .int sn])), (h, .inr (2, [.ref vR, .ref vQ, .ref vF, .ref vW, .ref vP, .ref vH, .ref vN, .ref vO, .int (nI cn), .int wk, .int sc])), (vP, .inl (cI, 16, .inl P))]) (vp_Si (fun r_ => r_ = (P r))) 0 0 (fun _ => False) := by
  refine Met.ofW (cc := cX5_shelfOf) (maxL := 2) (ret := (some .int)) (by decide) rfl ?_
  intro p e s m args below meth c s₁ B hml hv
  obtain ⟨rfl, hP, hK⟩ := hv
  have hx := B.exec
  have hb := B.bytes
  have hr := B.returns
  have hts := atoms_spec (ws := wsX5_shelfOf) B.pre
  have hown : s.vm.findClass RX5 = some m.cls := findClass_of_methodNamed B.named
  have hlocks := B.notSynchronized
  have hf10 := hts (.fieldLink RX5 10 "VaultShelves" "now" "LVaultShelves$Vault;") (by decide +kernel)
  have hf98 := hts (.fieldLink RX5 98 "VaultShelves$Vault" "places" "[I") (by decide +kernel)
  have hiX3 : ∀ w ∈ u_ws RX3 TX3 11, w ∈ wsX5_shelfOf := by decide +kernel
  have hiX5 : ∀ w ∈ u_ws RX5 TX5 6, w ∈ wsX5_shelfOf := by decide +kernel
  have hl := lv_entry ([.ref v, .int (nI r)]) (n := 2) (Nat.le_of_ble_eq_true rfl)
  rw [lg_entry_eq]
  generalize (lg_sl ([.ref v, .int (nI r)]) ++ List.replicate (2 - (lg_sl ([.ref v, .int (nI r)])).length) Slot.unset).toArray = ls at hl ⊢
  replace hl : lv_has ls 2 [(0, .ref v), (1, .int (nI r))] := hl
  refine lv_aload_n hx hb dX5_shelfOf_0 rfl (lv_at hl 0 rfl) ?_
  refine lv_iload_n hx hb dX5_shelfOf_1 rfl (lv_at hl 1 rfl) ?_
  refine va_csv (W.runV (As := [.int (nI r)]) (rest := []) ⟨hx, hb, hml, hown, hts⟩ (kX5_requireRecord l dC dI cI cV cW v h g bs x sv sn vR vQ vF vW vP vH vN vO cn wk sc r (hc) (hr_1)) (cwV 1 hts gX5_shelfOf_X5_requireRecord rfl rfl rfl hdX5_requireRecord ⟨Nat.le_of_ble_eq_true rfl, Nat.le_of_ble_eq_true rfl⟩) (pR_V hK hP 0 3 rfl rfl rfl [0, 1] rfl) rfl rfl hl.1 rfl (lv_room (Nat.le_of_ble_eq_true rfl)) dX5_shelfOf_2 ⟨Nat.zero_le _, Nat.zero_le _⟩) (fun _ => ?_)
  refine lv_aload_n hx hb dX5_shelfOf_5 rfl (lv_at hl 0 rfl) ?_
  refine va_get (D := (dC, dI)) (ci := 3) (v := .ref h) (C := RX5) (T := TX5) (N := 6) hx hb hts hiX5 hown hK hP 0 rfl rfl 0 (by decide) hf10 (fun _ h9 => h9) rfl dX5_shelfOf_6 ?_
  refine va_get (D := (dC, dI)) (ci := 2) (v := .ref vP) (C := RX3) (T := TX3) (N := 11) hx hb hts hiX3 hown hK hP 1 rfl rfl 4 (by decide) hf98 (fun _ h9 => h9) rfl dX5_shelfOf_9 ?_
  refine lv_iload_n hx hb dX5_shelfOf_12 rfl (lv_at hl 1 rfl) ?_
  refine n_iald hx hb hK hP 2 0 rfl rfl (show r < 16 from by omega) (by decide) dX5_shelfOf_13 ?_
  exact W.iret (v := (P r)) hx hb hr (fun t ht hW => ⟨_, rfl, rfl, ht⟩) (fun q hq => absurd hq List.not_mem_nil) dX5_shelfOf_14
set_option maxHeartbeats 4000000 in
set_option maxRecDepth 100000 in
theorem kX5_catalog (l : Launch) (dC : Nat → ClassId) (dI : Nat → Nat → Nat) (cI cV cW : ClassId) (v : Nat) (h : Nat) (g : Nat) (bs : Nat) (x : Nat) (sv : Nat) (sn : Int32) (vR : Nat) (vQ : Nat) (vF : Nat) (vW : Nat) (vP : Nat) (vH : Nat) (vN : Nat) (vO : Nat) (cn : Nat) (wk : Int32) (sc : Int32) (Hm : Nat → Int32) (r : Nat) (hc : cn ≤ 16) (hr_1 : r < cn) : Met l yX5_catalog wsX5_catalog ({ frames := 2, cells := 0, slots := 0, locals := 42 }) (pR (dC, dI) (tyS cI cV cW) [.ref v, .int (nI r)] [(v, .inr (3, [.ref h, .ref g, .ref bs, .ref x, .ref sv, .int sn])), (h, .inr (2, [.ref vR, .ref vQ, .ref vF, .ref vW, .ref vP, .ref vH, .ref vN, .ref vO, .int (nI cn), .int wk, .int sc])), (vH, .inl (cI, 16, .inl Hm))]) (vp_Si (fun r_ => r_ = (Hm r))) 0 0 (fun _ => False) := by
  refine Met.ofW (cc := cX5_catalog) (maxL := 2) (ret := (some .int)) (by decide) rfl ?_
  intro p e s m args below meth c s₁ B hml hv
  obtain ⟨rfl, hP, hK⟩ := hv
  have hx := B.exec
  have hb := B.bytes
  have hr := B.returns
  have hts := atoms_spec (ws := wsX5_catalog) B.pre
  have hown : s.vm.findClass RX5 = some m.cls := findClass_of_methodNamed B.named
  have hlocks := B.notSynchronized
  have hf10 := hts (.fieldLink RX5 10 "VaultShelves" "now" "LVaultShelves$Vault;") (by decide +kernel)
  have hf101 := hts (.fieldLink RX5 101 "VaultShelves$Vault" "homes" "[I") (by decide +kernel)
  have hiX3 : ∀ w ∈ u_ws RX3 TX3 11, w ∈ wsX5_catalog := by decide +kernel
  have hiX5 : ∀ w ∈ u_ws RX5 TX5 6, w ∈ wsX5_catalog := by decide +kernel
  have hl := lv_entry ([.ref v, .int (nI r)]) (n := 2) (Nat.le_of_ble_eq_true rfl)
  rw [lg_entry_eq]
  generalize (lg_sl ([.ref v, .int (nI r)]) ++ List.replicate (2 - (lg_sl ([.ref v, .int (nI r)])).length) Slot.unset).toArray = ls at hl ⊢
  replace hl : lv_has ls 2 [(0, .ref v), (1, .int (nI r))] := hl
  refine lv_aload_n hx hb dX5_catalog_0 rfl (lv_at hl 0 rfl) ?_
  refine lv_iload_n hx hb dX5_catalog_1 rfl (lv_at hl 1 rfl) ?_
  refine va_csv (W.runV (As := [.int (nI r)]) (rest := []) ⟨hx, hb, hml, hown, hts⟩ (kX5_requireRecord l dC dI cI cV cW v h g bs x sv sn vR vQ vF vW vP vH vN vO cn wk sc r (hc) (hr_1)) (cwV 1 hts gX5_catalog_X5_requireRecord rfl rfl rfl hdX5_requireRecord ⟨Nat.le_of_ble_eq_true rfl, Nat.le_of_ble_eq_true rfl⟩) (pR_V hK hP 0 3 rfl rfl rfl [0, 1] rfl) rfl rfl hl.1 rfl (lv_room (Nat.le_of_ble_eq_true rfl)) dX5_catalog_2 ⟨Nat.zero_le _, Nat.zero_le _⟩) (fun _ => ?_)
  refine lv_aload_n hx hb dX5_catalog_5 rfl (lv_at hl 0 rfl) ?_
  refine va_get (D := (dC, dI)) (ci := 3) (v := .ref h) (C := RX5) (T := TX5) (N := 6) hx hb hts hiX5 hown hK hP 0 rfl rfl 0 (by decide) hf10 (fun _ h9 => h9) rfl dX5_catalog_6 ?_
  refine va_get (D := (dC, dI)) (ci := 2) (v := .ref vH) (C := RX3) (T := TX3) (N := 11) hx hb hts hiX3 hown hK hP 1 rfl rfl 5 (by decide) hf101 (fun _ h9 => h9) rfl dX5_catalog_9 ?_
  refine lv_iload_n hx hb dX5_catalog_12 rfl (lv_at hl 1 rfl) ?_
  refine n_iald hx hb hK hP 2 0 rfl rfl (show r < 16 from by omega) (by decide) dX5_catalog_13 ?_
  exact W.iret (v := (Hm r)) hx hb hr (fun t ht hW => ⟨_, rfl, rfl, ht⟩) (fun q hq => absurd hq List.not_mem_nil) dX5_catalog_14
set_option maxHeartbeats 4000000 in
set_option maxRecDepth 100000 in
theorem kX5_weight (l : Launch) (dC : Nat → ClassId) (dI : Nat → Nat → Nat) (cI cV cW : ClassId) (v : Nat) (h : Nat) (g : Nat) (bs : Nat) (x : Nat) (sv : Nat) (sn : Int32) (vR : Nat) (vQ : Nat) (vF : Nat) (vW : Nat) (vP : Nat) (vH : Nat) (vN : Nat) (vO : Nat) (cn : Nat) (wk : Int32) (sc : Int32) (N : Nat → Int32) (O : Nat → Int32) (r : Nat) (hc : cn ≤ 16) (hr_1 : r < cn) : Met l yX5_weight wsX5_weight ({ frames := 2, cells := 0, slots := 0, locals := 42 }) (pR (dC, dI) (tyS cI cV cW) [.ref v, .int (nI r)] [(v, .inr (3, [.ref h, .ref g, .ref bs, .ref x, .ref sv, .int sn])), (h, .inr (2, [.ref vR, .ref vQ, .ref vF, .ref vW, .ref vP, .ref vH, .ref vN, .ref vO, .int (nI cn), .int wk, .int sc])), (vN, .inl (cI, 16, .inl N)), (vO, .inl (cI, 16, .inl O))]) (vp_Si (fun r_ => r_ = (sHf N O r))) 0 0 (fun _ => False) := by
  refine Met.ofW (cc := cX5_weight) (maxL := 2) (ret := (some .int)) (by decide) rfl ?_
  intro p e s m args below meth c s₁ B hml hv
  obtain ⟨rfl, hP, hK⟩ := hv
  have hx := B.exec
  have hb := B.bytes
  have hr := B.returns
  have hts := atoms_spec (ws := wsX5_weight) B.pre
  have hown : s.vm.findClass RX5 = some m.cls := findClass_of_methodNamed B.named
  have hlocks := B.notSynchronized
  have hf10 := hts (.fieldLink RX5 10 "VaultShelves" "now" "LVaultShelves$Vault;") (by decide +kernel)
  have hiX3 : ∀ w ∈ u_ws RX3 TX3 11, w ∈ wsX5_weight := by decide +kernel
  have hiX5 : ∀ w ∈ u_ws RX5 TX5 6, w ∈ wsX5_weight := by decide +kernel
  have hl := lv_entry ([.ref v, .int (nI r)]) (n := 2) (Nat.le_of_ble_eq_true rfl)
  rw [lg_entry_eq]
  generalize (lg_sl ([.ref v, .int (nI r)]) ++ List.replicate (2 - (lg_sl ([.ref v, .int (nI r)])).length) Slot.unset).toArray = ls at hl ⊢
  replace hl : lv_has ls 2 [(0, .ref v), (1, .int (nI r))] := hl
  refine lv_aload_n hx hb dX5_weight_0 rfl (lv_at hl 0 rfl) ?_
  refine lv_iload_n hx hb dX5_weight_1 rfl (lv_at hl 1 rfl) ?_
  refine va_csv (W.runV (As := [.int (nI r)]) (rest := []) ⟨hx, hb, hml, hown, hts⟩ (kX5_requireRecord l dC dI cI cV cW v h g bs x sv sn vR vQ vF vW vP vH vN vO cn wk sc r (hc) (hr_1)) (cwV 1 hts gX5_weight_X5_requireRecord rfl rfl rfl hdX5_requireRecord ⟨Nat.le_of_ble_eq_true rfl, Nat.le_of_ble_eq_true rfl⟩) (pR_V hK hP 0 3 rfl rfl rfl [0, 1] rfl) rfl rfl hl.1 rfl (lv_room (Nat.le_of_ble_eq_true rfl)) dX5_weight_2 ⟨Nat.zero_le _, Nat.zero_le _⟩) (fun _ => ?_)
  refine lv_aload_n hx hb dX5_weight_5 rfl (lv_at hl 0 rfl) ?_
  refine va_get (D := (dC, dI)) (ci := 3) (v := .ref h) (C := RX5) (T := TX5) (N := 6) hx hb hts hiX5 hown hK hP 0 rfl rfl 0 (by decide) hf10 (fun _ h9 => h9) rfl dX5_weight_6 ?_
  refine lv_iload_n hx hb dX5_weight_9 rfl (lv_at hl 1 rfl) ?_
  refine vp_callSi (W.runV (As := [.int (nI r)]) (rest := []) ⟨hx, hb, hml, hown, hts⟩ (kX3_weightOf l dC dI cI cV cW h vR vQ vF vW vP vH vN vO cn wk sc N O r (by omega)) (cwV 1 hts gX5_weight_X3_weightOf rfl rfl rfl hdX3_weightOf ⟨Nat.le_of_ble_eq_true rfl, Nat.le_of_ble_eq_true rfl⟩) (pR_V hK hP 1 2 rfl rfl rfl [1, 2, 3] rfl) rfl rfl hl.1 rfl (lv_room (Nat.le_of_ble_eq_true rfl)) dX5_weight_10 ⟨Nat.zero_le _, Nat.zero_le _⟩) (fun r_10 hr_ => ?_)
  subst hr_
  exact W.iret (v := (sHf N O r)) hx hb hr (fun t ht hW => ⟨_, rfl, rfl, ht⟩) (fun q hq => absurd hq List.not_mem_nil) dX5_weight_13
set_option maxHeartbeats 4000000 in
set_option maxRecDepth 100000 in
theorem kX5_walkTo (l : Launch) (dC : Nat → ClassId) (dI : Nat → Nat → Nat) (cI cV cW : ClassId) (v : Nat) (h : Nat) (g : Nat) (bs : Nat) (x : Nat) (sv : Nat) (sn : Int32) (vR : Nat) (vQ : Nat) (vF : Nat) (vW : Nat) (vP : Nat) (vH : Nat) (vN : Nat) (vO : Nat) (cn : Nat) (wk : Int32) (sc : Int32) (Q : Nat → Int32) (P : Nat → Int32) (Hm : Nat → Int32) (r : Nat) (hV : VO P Hm cn) (hr_1 : r < cn) : Met l yX5_walkTo wsX5_walkTo ({ frames := 2, cells := 0, slots := 0, locals := 46 }) (pR (dC, dI) (tyS cI cV cW) [.ref v, .int (nI r)] [(v, .inr (3, [.ref h, .ref g, .ref bs, .ref x, .ref sv, .int sn])), (h, .inr (2, [.ref vR, .ref vQ, .ref vF, .ref vW, .ref vP, .ref vH, .ref vN, .ref vO, .int (nI cn), .int wk, .int sc])), (vQ, .inl (cI, 6, .inl Q)), (vP, .inl (cI, 16, .inl P)), (vH, .inl (cI, 16, .inl Hm))]) (vp_Si (fun r_ => r_ = (cWalk Q P Hm r))) 0 0 (fun _ => False) := by
  refine Met.ofW (cc := cX5_walkTo) (maxL := 2) (ret := (some .int)) (by decide) rfl ?_
  intro p e s m args below meth c s₁ B hml hv
  obtain ⟨rfl, hP, hK⟩ := hv
  have hx := B.exec
  have hb := B.bytes
  have hr := B.returns
  have hts := atoms_spec (ws := wsX5_walkTo) B.pre
  have hown : s.vm.findClass RX5 = some m.cls := findClass_of_methodNamed B.named
  have hlocks := B.notSynchronized
  have hf10 := hts (.fieldLink RX5 10 "VaultShelves" "now" "LVaultShelves$Vault;") (by decide +kernel)
  have hiX3 : ∀ w ∈ u_ws RX3 TX3 11, w ∈ wsX5_walkTo := by decide +kernel
  have hiX5 : ∀ w ∈ u_ws RX5 TX5 6, w ∈ wsX5_walkTo := by decide +kernel
  have hl := lv_entry ([.ref v, .int (nI r)]) (n := 2) (Nat.le_of_ble_eq_true rfl)
  rw [lg_entry_eq]
  generalize (lg_sl ([.ref v, .int (nI r)]) ++ List.replicate (2 - (lg_sl ([.ref v, .int (nI r)])).length) Slot.unset).toArray = ls at hl ⊢
  replace hl : lv_has ls 2 [(0, .ref v), (1, .int (nI r))] := hl
  have hc := hV.1
  refine lv_aload_n hx hb dX5_walkTo_0 rfl (lv_at hl 0 rfl) ?_
  refine lv_iload_n hx hb dX5_walkTo_1 rfl (lv_at hl 1 rfl) ?_
  refine va_csv (W.runV (As := [.int (nI r)]) (rest := []) ⟨hx, hb, hml, hown, hts⟩ (kX5_requireRecord l dC dI cI cV cW v h g bs x sv sn vR vQ vF vW vP vH vN vO cn wk sc r (by omega) (hr_1)) (cwV 1 hts gX5_walkTo_X5_requireRecord rfl rfl rfl hdX5_requireRecord ⟨Nat.le_of_ble_eq_true rfl, Nat.le_of_ble_eq_true rfl⟩) (pR_V hK hP 0 3 rfl rfl rfl [0, 1] rfl) rfl rfl hl.1 rfl (lv_room (Nat.le_of_ble_eq_true rfl)) dX5_walkTo_2 ⟨Nat.zero_le _, Nat.zero_le _⟩) (fun _ => ?_)
  refine lv_aload_n hx hb dX5_walkTo_5 rfl (lv_at hl 0 rfl) ?_
  refine va_get (D := (dC, dI)) (ci := 3) (v := .ref h) (C := RX5) (T := TX5) (N := 6) hx hb hts hiX5 hown hK hP 0 rfl rfl 0 (by decide) hf10 (fun _ h9 => h9) rfl dX5_walkTo_6 ?_
  refine lv_iload_n hx hb dX5_walkTo_9 rfl (lv_at hl 1 rfl) ?_
  refine vp_callSi (W.runV (As := [.int (nI r)]) (rest := []) ⟨hx, hb, hml, hown, hts⟩ (kX3_walkOf l dC dI cI cV cW h vR vQ vF vW vP vH vN vO cn wk sc Q P Hm r (hV) (hr_1)) (cwV 1 hts gX5_walkTo_X3_walkOf rfl rfl rfl hdX3_walkOf ⟨Nat.le_of_ble_eq_true rfl, Nat.le_of_ble_eq_true rfl⟩) (pR_V hK hP 1 2 rfl rfl rfl [1, 2, 3, 4] rfl) rfl rfl hl.1 rfl (lv_room (Nat.le_of_ble_eq_true rfl)) dX5_walkTo_10 ⟨Nat.zero_le _, Nat.zero_le _⟩) (fun r_10 hr_ => ?_)
  subst hr_
  exact W.iret (v := (cWalk Q P Hm r)) hx hb hr (fun t ht hW => ⟨_, rfl, rfl, ht⟩) (fun q hq => absurd hq List.not_mem_nil) dX5_walkTo_13
theorem hdX5_requireShelf : yX5_requireShelf.cls ≠ "java/lang/invoke/MethodHandle" ∧ yX5_requireShelf.cls ≠ "java/lang/invoke/VarHandle" ∧ (parseMethodDescriptor yX5_requireShelf.desc).map (fun d => d.parameters.length) = some 1 := by decide +kernel
set_option maxHeartbeats 4000000 in
set_option maxRecDepth 100000 in
theorem kX5_free (l : Launch) (dC : Nat → ClassId) (dI : Nat → Nat → Nat) (cI cV cW : ClassId) (v : Nat) (h : Nat) (g : Nat) (bs : Nat) (x : Nat) (sv : Nat) (sn : Int32) (vR : Nat) (vQ : Nat) (vF : Nat) (vW : Nat) (vP : Nat) (vH : Nat) (vN : Nat) (vO : Nat) (cn : Nat) (wk : Int32) (sc : Int32) (R : Nat → Int32) (F : Nat → Int32) (k : Nat) (hk : k < 6) : Met l yX5_free wsX5_free ({ frames := 1, cells := 0, slots := 0, locals := 21 }) (pR (dC, dI) (tyS cI cV cW) [.ref v, .int (nI k)] [(v, .inr (3, [.ref h, .ref g, .ref bs, .ref x, .ref sv, .int sn])), (h, .inr (2, [.ref vR, .ref vQ, .ref vF, .ref vW, .ref vP, .ref vH, .ref vN, .ref vO, .int (nI cn), .int wk, .int sc])), (vR, .inl (cI, 6, .inl R)), (vF, .inl (cI, 6, .inl F))]) (vp_Si (fun r_ => r_ = (R k - F k))) 0 0 (fun _ => False) := by
  refine Met.ofW (cc := cX5_free) (maxL := 2) (ret := (some .int)) (by decide) rfl ?_
  intro p e s m args below meth c s₁ B hml hv
  obtain ⟨rfl, hP, hK⟩ := hv
  have hx := B.exec
  have hb := B.bytes
  have hr := B.returns
  have hts := atoms_spec (ws := wsX5_free) B.pre
  have hown : s.vm.findClass RX5 = some m.cls := findClass_of_methodNamed B.named
  have hlocks := B.notSynchronized
  have hf10 := hts (.fieldLink RX5 10 "VaultShelves" "now" "LVaultShelves$Vault;") (by decide +kernel)
  have hiX3 : ∀ w ∈ u_ws RX3 TX3 11, w ∈ wsX5_free := by decide +kernel
  have hiX5 : ∀ w ∈ u_ws RX5 TX5 6, w ∈ wsX5_free := by decide +kernel
  have hl := lv_entry ([.ref v, .int (nI k)]) (n := 2) (Nat.le_of_ble_eq_true rfl)
  rw [lg_entry_eq]
  generalize (lg_sl ([.ref v, .int (nI k)]) ++ List.replicate (2 - (lg_sl ([.ref v, .int (nI k)])).length) Slot.unset).toArray = ls at hl ⊢
  replace hl : lv_has ls 2 [(0, .ref v), (1, .int (nI k))] := hl
  refine lv_iload_n hx hb dX5_free_0 rfl (lv_at hl 1 rfl) ?_
  refine va_csv (W.runS (As := [.int (nI k)]) (rest := []) ⟨hx, hb, hml, hown, hts⟩ (kX5_requireShelf l dC dI cI cV cW k (hk)) (va_cwS 1 hts gX5_free_X5_requireShelf rfl rfl rfl hdX5_requireShelf ⟨Nat.le_of_ble_eq_true rfl, Nat.le_of_ble_eq_true rfl⟩) (pR_S hK hP [] rfl) rfl rfl hl.1 rfl (lv_room (Nat.le_of_ble_eq_true rfl)) dX5_free_1 ⟨Nat.zero_le _, Nat.zero_le _⟩) (fun _ => ?_)
  refine lv_aload_n hx hb dX5_free_4 rfl (lv_at hl 0 rfl) ?_
  refine va_get (D := (dC, dI)) (ci := 3) (v := .ref h) (C := RX5) (T := TX5) (N := 6) hx hb hts hiX5 hown hK hP 0 rfl rfl 0 (by decide) hf10 (fun _ h9 => h9) rfl dX5_free_5 ?_
  refine lv_iload_n hx hb dX5_free_8 rfl (lv_at hl 1 rfl) ?_
  refine vp_callSi (W.runV (As := [.int (nI k)]) (rest := []) ⟨hx, hb, hml, hown, hts⟩ (kX3_freeRoom l dC dI cI cV cW h vR vQ vF vW vP vH vN vO cn wk sc R F k (hk)) (cwV 1 hts gX5_free_X3_freeRoom rfl rfl rfl hdX3_freeRoom ⟨Nat.le_of_ble_eq_true rfl, Nat.le_of_ble_eq_true rfl⟩) (pR_V hK hP 1 2 rfl rfl rfl [1, 2, 3] rfl) rfl rfl hl.1 rfl (lv_room (Nat.le_of_ble_eq_true rfl)) dX5_free_9 ⟨Nat.zero_le _, Nat.zero_le _⟩) (fun r_9 hr_ => ?_)
  subst hr_
  exact W.iret (v := (R k - F k)) hx hb hr (fun t ht hW => ⟨_, rfl, rfl, ht⟩) (fun q hq => absurd hq List.not_mem_nil) dX5_free_12
set_option maxHeartbeats 4000000 in
set_option maxRecDepth 100000 in
theorem kX5_reach (l : Launch) (dC : Nat → ClassId) (dI : Nat → Nat → Nat) (cI cV cW : ClassId) (v : Nat) (h : Nat) (g : Nat) (bs : Nat) (x : Nat) (sv : Nat) (sn : Int32) (vR : Nat) (vQ : Nat) (vF : Nat) (vW : Nat) (vP : Nat) (vH : Nat) (vN : Nat) (vO : Nat) (cn : Nat) (wk : Int32) (sc : Int32) (Q : Nat → Int32) (k : Nat) (hk : k < 6) : Met l yX5_reach wsX5_reach ({ frames := 1, cells := 0, slots := 0, locals := 20 }) (pR (dC, dI) (tyS cI cV cW) [.ref v, .int (nI k)] [(v, .inr (3, [.ref h, .ref g, .ref bs, .ref x, .ref sv, .int sn])), (h, .inr (2, [.ref vR, .ref vQ, .ref vF, .ref vW, .ref vP, .ref vH, .ref vN, .ref vO, .int (nI cn), .int wk, .int sc])), (vQ, .inl (cI, 6, .inl Q))]) (vp_Si (fun r_ => r_ = (Q k))) 0 0 (fun _ => False) := by
  refine Met.ofW (cc := cX5_reach) (maxL := 2) (ret := (some .int)) (by decide) rfl ?_
  intro p e s m args below meth c s₁ B hml hv
  obtain ⟨rfl, hP, hK⟩ := hv
  have hx := B.exec
  have hb := B.bytes
  have hr := B.returns
  have hts := atoms_spec (ws := wsX5_reach) B.pre
  have hown : s.vm.findClass RX5 = some m.cls := findClass_of_methodNamed B.named
  have hlocks := B.notSynchronized
  have hf10 := hts (.fieldLink RX5 10 "VaultShelves" "now" "LVaultShelves$Vault;") (by decide +kernel)
  have hf65 := hts (.fieldLink RX5 65 "VaultShelves$Vault" "reaches" "[I") (by decide +kernel)
  have hiX3 : ∀ w ∈ u_ws RX3 TX3 11, w ∈ wsX5_reach := by decide +kernel
  have hiX5 : ∀ w ∈ u_ws RX5 TX5 6, w ∈ wsX5_reach := by decide +kernel
  have hl := lv_entry ([.ref v, .int (nI k)]) (n := 2) (Nat.le_of_ble_eq_true rfl)
  rw [lg_entry_eq]
  generalize (lg_sl ([.ref v, .int (nI k)]) ++ List.replicate (2 - (lg_sl ([.ref v, .int (nI k)])).length) Slot.unset).toArray = ls at hl ⊢
  replace hl : lv_has ls 2 [(0, .ref v), (1, .int (nI k))] := hl
  refine lv_iload_n hx hb dX5_reach_0 rfl (lv_at hl 1 rfl) ?_
  refine va_csv (W.runS (As := [.int (nI k)]) (rest := []) ⟨hx, hb, hml, hown, hts⟩ (kX5_requireShelf l dC dI cI cV cW k (hk)) (va_cwS 1 hts gX5_reach_X5_requireShelf rfl rfl rfl hdX5_requireShelf ⟨Nat.le_of_ble_eq_true rfl, Nat.le_of_ble_eq_true rfl⟩) (pR_S hK hP [] rfl) rfl rfl hl.1 rfl (lv_room (Nat.le_of_ble_eq_true rfl)) dX5_reach_1 ⟨Nat.zero_le _, Nat.zero_le _⟩) (fun _ => ?_)
  refine lv_aload_n hx hb dX5_reach_4 rfl (lv_at hl 0 rfl) ?_
  refine va_get (D := (dC, dI)) (ci := 3) (v := .ref h) (C := RX5) (T := TX5) (N := 6) hx hb hts hiX5 hown hK hP 0 rfl rfl 0 (by decide) hf10 (fun _ h9 => h9) rfl dX5_reach_5 ?_
  refine va_get (D := (dC, dI)) (ci := 2) (v := .ref vQ) (C := RX3) (T := TX3) (N := 11) hx hb hts hiX3 hown hK hP 1 rfl rfl 1 (by decide) hf65 (fun _ h9 => h9) rfl dX5_reach_8 ?_
  refine lv_iload_n hx hb dX5_reach_11 rfl (lv_at hl 1 rfl) ?_
  refine n_iald hx hb hK hP 2 0 rfl rfl (show k < 6 from by omega) (by decide) dX5_reach_12 ?_
  exact W.iret (v := (Q k)) hx hb hr (fun t ht hW => ⟨_, rfl, rfl, ht⟩) (fun q hq => absurd hq List.not_mem_nil) dX5_reach_13
set_option maxHeartbeats 4000000 in
set_option maxRecDepth 100000 in
theorem kX5_reason (l : Launch) (dC : Nat → ClassId) (dI : Nat → Nat → Nat) (cI cV cW : ClassId) (v : Nat) (h : Nat) (g : Nat) (bs : Nat) (x : Nat) (sv : Nat) (sn : Int32) (vR : Nat) (vQ : Nat) (vF : Nat) (vW : Nat) (vP : Nat) (vH : Nat) (vN : Nat) (vO : Nat) (cn : Nat) (wk : Int32) (sc : Int32) (N : Nat → Int32) (O : Nat → Int32) (Q : Nat → Int32) (P : Nat → Int32) (Hm : Nat → Int32) (R : Nat → Int32) (F : Nat → Int32) (Wd : Nat → Int32) (r : Nat) (k : Nat) (hV : VO P Hm cn) (hr_1 : r < cn) (hk : k < 6) : Met l yX5_reason wsX5_reason ({ frames := 2, cells := 0, slots := 0, locals := 43 }) (pR (dC, dI) (tyS cI cV cW) [.ref v, .int (nI r), .int (nI k)] [(v, .inr (3, [.ref h, .ref g, .ref bs, .ref x, .ref sv, .int sn])), (h, .inr (2, [.ref vR, .ref vQ, .ref vF, .ref vW, .ref vP, .ref vH, .ref vN, .ref vO, .int (nI cn), .int wk, .int sc])), (vN, .inl (cI, 16, .inl N)), (vO, .inl (cI, 16, .inl O)), (vQ, .inl (cI, 6, .inl Q)), (vP, .inl (cI, 16, .inl P)), (vH, .inl (cI, 16, .inl Hm)), (vR, .inl (cI, 6, .inl R)), (vF, .inl (cI, 6, .inl F)), (vW, .inl (cI, 16, .inl Wd))]) (vp_Si (fun r_ => r_ = (cRsn N O Q P Hm R F Wd r k))) 0 0 (fun _ => False) := by
  refine Met.ofW (cc := cX5_reason) (maxL := 3) (ret := (some .int)) (by decide) rfl ?_
  intro p e s m args below meth c s₁ B hml hv
  obtain ⟨rfl, hP, hK⟩ := hv
  have hx := B.exec
  have hb := B.bytes
  have hr := B.returns
  have hts := atoms_spec (ws := wsX5_reason) B.pre
  have hown : s.vm.findClass RX5 = some m.cls := findClass_of_methodNamed B.named
  have hlocks := B.notSynchronized
  have hf10 := hts (.fieldLink RX5 10 "VaultShelves" "now" "LVaultShelves$Vault;") (by decide +kernel)
  have hf98 := hts (.fieldLink RX5 98 "VaultShelves$Vault" "places" "[I") (by decide +kernel)
  have hf95 := hts (.fieldLink RX5 95 "VaultShelves$Vault" "widths" "[I") (by decide +kernel)
  have hiX3 : ∀ w ∈ u_ws RX3 TX3 11, w ∈ wsX5_reason := by decide +kernel
  have hiX5 : ∀ w ∈ u_ws RX5 TX5 6, w ∈ wsX5_reason := by decide +kernel
  have hl := lv_entry ([.ref v, .int (nI r), .int (nI k)]) (n := 3) (Nat.le_of_ble_eq_true rfl)
  rw [lg_entry_eq]
  generalize (lg_sl ([.ref v, .int (nI r), .int (nI k)]) ++ List.replicate (3 - (lg_sl ([.ref v, .int (nI r), .int (nI k)])).length) Slot.unset).toArray = ls at hl ⊢
  replace hl : lv_has ls 3 [(0, .ref v), (1, .int (nI r)), (2, .int (nI k))] := hl
  have hc := hV.1
  refine lv_aload_n hx hb dX5_reason_0 rfl (lv_at hl 0 rfl) ?_
  refine lv_iload_n hx hb dX5_reason_1 rfl (lv_at hl 1 rfl) ?_
  refine va_csv (W.runV (As := [.int (nI r)]) (rest := []) ⟨hx, hb, hml, hown, hts⟩ (kX5_requireRecord l dC dI cI cV cW v h g bs x sv sn vR vQ vF vW vP vH vN vO cn wk sc r (by omega) (hr_1)) (cwV 1 hts gX5_reason_X5_requireRecord rfl rfl rfl hdX5_requireRecord ⟨Nat.le_of_ble_eq_true rfl, Nat.le_of_ble_eq_true rfl⟩) (pR_V hK hP 0 3 rfl rfl rfl [0, 1] rfl) rfl rfl hl.1 rfl (lv_room (Nat.le_of_ble_eq_true rfl)) dX5_reason_2 ⟨Nat.zero_le _, Nat.zero_le _⟩) (fun _ => ?_)
  refine lv_iload_n hx hb dX5_reason_5 rfl (lv_at hl 2 rfl) ?_
  refine va_csv (W.runS (As := [.int (nI k)]) (rest := []) ⟨hx, hb, hml, hown, hts⟩ (kX5_requireShelf l dC dI cI cV cW k (hk)) (va_cwS 1 hts gX5_reason_X5_requireShelf rfl rfl rfl hdX5_requireShelf ⟨Nat.le_of_ble_eq_true rfl, Nat.le_of_ble_eq_true rfl⟩) (pR_S hK hP [] rfl) rfl rfl hl.1 rfl (lv_room (Nat.le_of_ble_eq_true rfl)) dX5_reason_6 ⟨Nat.zero_le _, Nat.zero_le _⟩) (fun _ => ?_)
  refine lv_aload_n hx hb dX5_reason_9 rfl (lv_at hl 0 rfl) ?_
  refine va_get (D := (dC, dI)) (ci := 3) (v := .ref h) (C := RX5) (T := TX5) (N := 6) hx hb hts hiX5 hown hK hP 0 rfl rfl 0 (by decide) hf10 (fun _ h9 => h9) rfl dX5_reason_10 ?_
  refine lv_iload_n hx hb dX5_reason_13 rfl (lv_at hl 1 rfl) ?_
  refine vp_callSi (W.runV (As := [.int (nI r)]) (rest := []) ⟨hx, hb, hml, hown, hts⟩ (kX3_isMisplaced l dC dI cI cV cW h vR vQ vF vW vP vH vN vO cn wk sc P Hm r (by omega)) (cwV 1 hts gX5_reason_X3_isMisplaced rfl rfl rfl hdX3_isMisplaced ⟨Nat.le_of_ble_eq_true rfl, Nat.le_of_ble_eq_true rfl⟩) (pR_V hK hP 1 2 rfl rfl rfl [1, 5, 6] rfl) rfl rfl hl.1 rfl (lv_room (Nat.le_of_ble_eq_true rfl)) dX5_reason_14 ⟨Nat.zero_le _, Nat.zero_le _⟩) (fun r_14 hr_ => ?_)
  subst hr_
  refine b_if_eq (tgt := 22) hx hb dX5_reason_17 (by decide) (fun c_17 => ?_) (fun c_17 => ?_)
  · refine lv_aload_n hx hb dX5_reason_22 rfl (lv_at hl 0 rfl) ?_
    refine va_get (D := (dC, dI)) (ci := 3) (v := .ref h) (C := RX5) (T := TX5) (N := 6) hx hb hts hiX5 hown hK hP 0 rfl rfl 0 (by decide) hf10 (fun _ h9 => h9) rfl dX5_reason_23 ?_
    refine va_get (D := (dC, dI)) (ci := 2) (v := .ref vP) (C := RX3) (T := TX3) (N := 11) hx hb hts hiX3 hown hK hP 1 rfl rfl 4 (by decide) hf98 (fun _ h9 => h9) rfl dX5_reason_26 ?_
    refine lv_iload_n hx hb dX5_reason_29 rfl (lv_at hl 1 rfl) ?_
    refine n_iald hx hb hK hP 5 0 rfl rfl (show r < 16 from by omega) (by decide) dX5_reason_30 ?_
    refine lv_iload_n hx hb dX5_reason_31 rfl (lv_at hl 2 rfl) ?_
    refine lv_icmp_ne (tgt := 37) hx hb dX5_reason_32 (by decide) (fun c_32 => ?_) (fun c_32 => ?_)
    · refine lv_aload_n hx hb dX5_reason_37 rfl (lv_at hl 0 rfl) ?_
      refine va_get (D := (dC, dI)) (ci := 3) (v := .ref h) (C := RX5) (T := TX5) (N := 6) hx hb hts hiX5 hown hK hP 0 rfl rfl 0 (by decide) hf10 (fun _ h9 => h9) rfl dX5_reason_38 ?_
      refine lv_iload_n hx hb dX5_reason_41 rfl (lv_at hl 2 rfl) ?_
      refine vp_callSi (W.runV (As := [.int (nI k)]) (rest := []) ⟨hx, hb, hml, hown, hts⟩ (kX3_freeRoom l dC dI cI cV cW h vR vQ vF vW vP vH vN vO cn wk sc R F k (hk)) (cwV 1 hts gX5_reason_X3_freeRoom rfl rfl rfl hdX3_freeRoom ⟨Nat.le_of_ble_eq_true rfl, Nat.le_of_ble_eq_true rfl⟩) (pR_V hK hP 1 2 rfl rfl rfl [1, 7, 8] rfl) rfl rfl hl.1 rfl (lv_room (Nat.le_of_ble_eq_true rfl)) dX5_reason_42 ⟨Nat.zero_le _, Nat.zero_le _⟩) (fun r_42 hr_ => ?_)
      subst hr_
      refine lv_aload_n hx hb dX5_reason_45 rfl (lv_at hl 0 rfl) ?_
      refine va_get (D := (dC, dI)) (ci := 3) (v := .ref h) (C := RX5) (T := TX5) (N := 6) hx hb hts hiX5 hown hK hP 0 rfl rfl 0 (by decide) hf10 (fun _ h9 => h9) rfl dX5_reason_46 ?_
      refine va_get (D := (dC, dI)) (ci := 2) (v := .ref vW) (C := RX3) (T := TX3) (N := 11) hx hb hts hiX3 hown hK hP 1 rfl rfl 3 (by decide) hf95 (fun _ h9 => h9) rfl dX5_reason_49 ?_
      refine lv_iload_n hx hb dX5_reason_52 rfl (lv_at hl 1 rfl) ?_
      refine n_iald hx hb hK hP 9 0 rfl rfl (show r < 16 from by omega) (by decide) dX5_reason_53 ?_
      refine lv_icmp_ge (tgt := 59) hx hb dX5_reason_54 (by decide) (fun c_54 => ?_) (fun c_54 => ?_)
      · refine lv_aload_n hx hb dX5_reason_59 rfl (lv_at hl 0 rfl) ?_
        refine va_get (D := (dC, dI)) (ci := 3) (v := .ref h) (C := RX5) (T := TX5) (N := 6) hx hb hts hiX5 hown hK hP 0 rfl rfl 0 (by decide) hf10 (fun _ h9 => h9) rfl dX5_reason_60 ?_
        refine lv_iload_n hx hb dX5_reason_63 rfl (lv_at hl 1 rfl) ?_
        refine lv_iload_n hx hb dX5_reason_64 rfl (lv_at hl 2 rfl) ?_
        refine vp_callSi (W.runV (As := [.int (nI r), .int (nI k)]) (rest := []) ⟨hx, hb, hml, hown, hts⟩ (kX3_moveGain l dC dI cI cV cW h vR vQ vF vW vP vH vN vO cn wk sc N O Q P Hm r k (hV) (hr_1) (hk)) (cwV 2 hts gX5_reason_X3_moveGain rfl rfl rfl hdX3_moveGain ⟨Nat.le_of_ble_eq_true rfl, Nat.le_of_ble_eq_true rfl⟩) (pR_V hK hP 1 2 rfl rfl rfl [1, 2, 3, 4, 5, 6] rfl) rfl rfl hl.1 rfl (lv_room (Nat.le_of_ble_eq_true rfl)) dX5_reason_65 ⟨Nat.zero_le _, Nat.zero_le _⟩) (fun r_65 hr_ => ?_)
        subst hr_
        refine lv_iconst (v := (nI 1)) hx hb dX5_reason_68 (by decide) ?_
        refine lv_icmp_ge (tgt := 76) hx hb dX5_reason_69 (by decide) (fun c_69 => ?_) (fun c_69 => ?_)
        · refine lv_iconst (v := (nI 0)) hx hb dX5_reason_76 (by decide) ?_
          exact W.iret (v := (nI 0)) hx hb hr (fun t ht hW => ⟨_, rfl, (show (nI 0) = (cRsn N O Q P Hm R F Wd r k) from by first | rfl | (simp only [cRsn, c_17, c_32, c_54, Int32.not_lt.mpr c_54, c_69, Int32.not_lt.mpr c_69, if_true, if_false, eq_self, Bool.false_eq_true] <;> rfl)), ht⟩) (fun q hq => absurd hq List.not_mem_nil) dX5_reason_77
        · refine lv_iconst (v := (nI 4)) hx hb dX5_reason_72 (by decide) ?_
          refine lv_goto (tgt := 77) hx hb dX5_reason_73 (by decide) ?_
          exact W.iret (v := (nI 4)) hx hb hr (fun t ht hW => ⟨_, rfl, (show (nI 4) = (cRsn N O Q P Hm R F Wd r k) from by first | rfl | (simp only [cRsn, c_17, c_32, c_54, Int32.not_lt.mpr c_54, c_69, Int32.not_le.mp c_69, if_true, if_false, eq_self, Bool.false_eq_true] <;> rfl)), ht⟩) (fun q hq => absurd hq List.not_mem_nil) dX5_reason_77
      · refine lv_iconst (v := (nI 3)) hx hb dX5_reason_57 (by decide) ?_
        exact W.iret (v := (nI 3)) hx hb hr (fun t ht hW => ⟨_, rfl, (show (nI 3) = (cRsn N O Q P Hm R F Wd r k) from by first | rfl | (simp only [cRsn, c_17, c_32, c_54, Int32.not_le.mp c_54, if_true, if_false, eq_self, Bool.false_eq_true] <;> rfl)), ht⟩) (fun q hq => absurd hq List.not_mem_nil) dX5_reason_58
    · refine lv_iconst (v := (nI 2)) hx hb dX5_reason_35 (by decide) ?_
      exact W.iret (v := (nI 2)) hx hb hr (fun t ht hW => ⟨_, rfl, (show (nI 2) = (cRsn N O Q P Hm R F Wd r k) from by first | rfl | (simp only [cRsn, c_17, c_32, if_true, if_false, eq_self, Bool.false_eq_true] <;> rfl)), ht⟩) (fun q hq => absurd hq List.not_mem_nil) dX5_reason_36
  · refine lv_iconst (v := (nI 1)) hx hb dX5_reason_20 (by decide) ?_
    exact W.iret (v := (nI 1)) hx hb hr (fun t ht hW => ⟨_, rfl, (show (nI 1) = (cRsn N O Q P Hm R F Wd r k) from by first | rfl | (simp only [cRsn, c_17, if_true, if_false, eq_self, Bool.false_eq_true] <;> rfl)), ht⟩) (fun q hq => absurd hq List.not_mem_nil) dX5_reason_21
set_option maxHeartbeats 4000000 in
set_option maxRecDepth 100000 in
theorem kX5_mix (l : Launch) (dC : Nat → ClassId) (dI : Nat → Nat → Nat) (cI cV cW : ClassId) (u9 : Int64) (y : Int32)  : Met l yX5_mix wsX5_mix ({ frames := 0, cells := 0, slots := 0, locals := 0 }) (pR (dC, dI) (tyS cI cV cW) [.long u9, .int y] []) (vp_Sl (fun r_ => r_ = dh u9 y)) 0 0 (fun _ => False) := by
  refine Met.ofW (cc := cX5_mix) (maxL := 3) (ret := (some .long)) (by decide) rfl ?_
  intro p e s m args below meth c s₁ B hml hv
  obtain ⟨rfl, hP, hK⟩ := hv
  have hx := B.exec
  have hb := B.bytes
  have hr := B.returns
  have hts := atoms_spec (ws := wsX5_mix) B.pre
  have hown : s.vm.findClass RX5 = some m.cls := findClass_of_methodNamed B.named
  have hlocks := B.notSynchronized
  have hl := lv_entry ([.long u9, .int y]) (n := 3) (Nat.le_of_ble_eq_true rfl)
  rw [lg_entry_eq]
  generalize (lg_sl ([.long u9, .int y]) ++ List.replicate (3 - (lg_sl ([.long u9, .int y])).length) Slot.unset).toArray = ls at hl ⊢
  replace hl : lv_has ls 3 [(0, .long u9), (2, .int y)] := hl
  refine lv_ldc2 hx hb hown (hts (.constantLong RX5 219 31) (by decide +kernel)) dX5_mix_0 ?_
  refine lv_lload_n hx hb dX5_mix_3 rfl (lv_at hl 0 rfl) ?_
  refine lv_lmul hx hb dX5_mix_4 ?_
  refine lv_iload_n hx hb dX5_mix_5 rfl (lv_at hl 1 rfl) ?_
  refine lv_i2l hx hb dX5_mix_6 rfl ?_
  refine lv_ladd hx hb dX5_mix_7 ?_
  exact W.lret (v := ((31 * u9) + ((y).toInt64))) hx hb hr (fun t ht hW => ⟨_, rfl, (show (31 * u9) + ((y).toInt64) = dh u9 y from by rfl), ht⟩) (fun q hq => absurd hq List.not_mem_nil) dX5_mix_8
