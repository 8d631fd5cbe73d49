abbrev HU : Type := (Nat → Nat → Nat) × XS × (Nat → Int64)
theorem met_of_vx {l : Launch} {y : MethodName} {ws : List Cond} {rm : Room} {Pc : Array Value → State → Prop} {Qc : Array Value → State → Outcome → State → Prop} {mc ms : Nat} {free : Addr → Prop} (hM : vx_Met l y ws rm Pc Qc (fun _ _ _ => False) mc ms free) : Met l y ws rm Pc Qc mc ms free := by
  intro p e ha hc hk s m args below h1 h2 h3 h4
  obtain ⟨n, o, g1, g2, g3, g4⟩ := hM p e ha hc hk s m args below h1 h2 h3 h4
  refine ⟨n, o, g1, g2, g3, ?_⟩
  rcases g4 with q1 | ⟨q, e1, E, ce, L, x1, -⟩
  · exact q1
  · exact x1.elim
theorem freeW {A0 : Nat → Prop} {ws : va_W} {H0 H : Heap} {locs : List Loc} (hD : va_D A0 ws) (hS : va_S A0 H0 H locs) (hA : ∀ q, H0.size ≤ q → A0 q) : ∀ q, va_A ws H.size q → A0 q := by
  intro q h
  rcases h with ⟨k, e, h⟩ | h
  · exact hD.2 k (q, e) h
  · exact hA q (Nat.le_trans hS.1 h)
theorem hdX5_setShelf : yX5_setShelf.cls = RX5 ∧ yX5_setShelf.cls ≠ "java/lang/invoke/MethodHandle" ∧ yX5_setShelf.cls ≠ "java/lang/invoke/VarHandle" ∧ (parseMethodDescriptor yX5_setShelf.desc).map (fun d => d.parameters.length) = some 3 := by decide +kernel
set_option maxHeartbeats 4000000 in
set_option maxRecDepth 100000 in
theorem hL_setShelf (l : Launch) (dC : Nat → ClassId) (dI : Nat → Nat → Nat) (cI cV cW cL : ClassId) (wa sw : Nat) (ad aK aV : Nat → Nat) (sa : Nat → Nat) (sz : Nat) (a : Nat → Nat) (A : Nat → Nat → Nat) (hlt : l.stackTraces = false) (K : Nat → VS) (b : CS) (n : Nat) (T : TS) (M : MS) (ou : Nat → Int64) (y : Int32) (z : Int32) (u : Int32) (hn6 : n ≤ 6) : Met l yL_setShelf wsL_setShelf ({ frames := 8, cells := 2, slots := 12, locals := 144 }) (pL sa wa sw ad aK aV (dC, dI) (tyL cI cV cW cL) sz [.ref (a 0), .int y, .int z, .int u, .ref (a 14)] (LW cI cV cW cL a A (K, b, n, T) M ou)) (va_Qi (fun (r_ : Int32) (w9 : HU) => (r_ = nI 0 ∧ ∃ v9 : Int32, (v9 = upd ((K 6).2.2.2 0) (ix y) z (ix y) - ((K 6).2.2.2 2) (ix y) ∧ cxSet ((K 6).2.2.2 2) y z u = 0) ∧ w9 = ((svA n A), (setK (svK n K) 6 (((K 6).1), ((K 6).2.1), ((K 6).2.2.1), mk8 (upd ((K 6).2.2.2 0) (ix y) z) (upd ((K 6).2.2.2 1) (ix y) u) ((K 6).2.2.2 2) ((K 6).2.2.2 3) ((K 6).2.2.2 4) ((K 6).2.2.2 5) ((K 6).2.2.2 6) ((K 6).2.2.2 7)), b, svN n, T), vp_updL ou (nI 0).toNatClampNeg v9.toInt64)) ∨ (((cxSet ((K 6).2.2.2 2) y z u = 1 ∧ r_ = nI 1) ∨ (cxSet ((K 6).2.2.2 2) y z u = 2 ∧ r_ = nI 2) ∨ (cxSet ((K 6).2.2.2 2) y z u = 3 ∧ r_ = nI 3)) ∧ w9 = (A, (K, b, n, T), ou))) (fun (w9 : HU) t => qL (dC, dI) (va_A (LW cI cV cW cL a A (K, b, n, T) M ou) sz) (LW cI cV cW cL a w9.1 w9.2.1 M w9.2.2) t) (va_A (LW cI cV cW cL a A (K, b, n, T) M ou) sz)) 2 12 (va_A (LW cI cV cW cL a A (K, b, n, T) M ou) sz) := by
  refine met_of_vx (vx_ofWH (cc := cL_setShelf) (maxL := 6) (ret := (some .int)) (hh := [(0, 12, 15, 13), (0, 12, 19, 15), (0, 12, 23, 17)]) (by decide) rfl ?_)
  intro p e s m args below meth c s₁ B hml hv
  obtain ⟨rfl, hsz, hP, hK, hD0, hIm, hNw, hXm, hC3⟩ := hv
  have hx := B.exec
  have hb := B.bytes
  have hr := B.returns
  have hts := atoms_spec (ws := wsL_setShelf) B.pre
  have hown : s.vm.findClass RL = some m.cls := findClass_of_methodNamed B.named
  have hlocks := B.notSynchronized
  have htab := vx_table (x := yL_setShelf) B (hts _ List.mem_cons_self)
  subst hsz
  have hD := hD0.self (sz := s.heap.size)
  generalize hAe : va_A (LW cI cV cW cL a A (K, b, n, T) M ou) s.heap.size = Af at hD hIm hXm ⊢
  have hA : ∀ q : Nat, s.heap.size ≤ q → Af q := fun q h => by rw [← hAe]; exact Or.inr h
  have hS : va_S Af s.heap s.heap [] := va_S.rf
  refine w_gen hP hS (fun H locs hP hS => ?_)
  have hl := lv_entry ([.ref (a 0), .int y, .int z, .int u, .ref (a 14)]) (n := 6) (Nat.le_of_ble_eq_true rfl)
  rw [lg_entry_eq]
  generalize (lg_sl ([.ref (a 0), .int y, .int z, .int u, .ref (a 14)]) ++ List.replicate (6 - (lg_sl ([.ref (a 0), .int y, .int z, .int u, .ref (a 14)])).length) Slot.unset).toArray = ls at hl ⊢
  replace hl : lv_has ls 6 [(0, .ref (a 0)), (1, .int y), (2, .int z), (3, .int u), (4, .ref (a 14))] := hl
  refine lv_aload hx hb dL_setShelf_0 (lv_at hl 4 rfl) ?_
  refine lv_iconst (v := (nI 0)) hx hb dL_setShelf_2 (by decide) ?_
  refine lv_aload_n hx hb dL_setShelf_3 rfl (lv_at hl 0 rfl) ?_
  refine lv_iload_n hx hb dL_setShelf_4 rfl (lv_at hl 1 rfl) ?_
  refine lv_iload_n hx hb dL_setShelf_5 rfl (lv_at hl 2 rfl) ?_
  refine lv_iload_n hx hb dL_setShelf_6 rfl (lv_at hl 3 rfl) ?_
  have hFc := freeW hD hS hA
  refine vx_calli (vx_runV (As := [.int y, .int z, .int u]) (rest := [.int (nI 0), .ref (a 14)]) ⟨hx, hb, hml, hown, hts⟩ (aX5_setShelf l dC dI cI cV cW cL wa sw ad aK aV sa H.size a A hlt K b n T M ou y z u hn6) (cwV 3 hts gL_setShelf_X5_setShelf rfl rfl rfl hdX5_setShelf ⟨Nat.le_of_ble_eq_true rfl, Nat.le_of_ble_eq_true rfl⟩) (pL_V (A := Af) hK (imW hIm hS hFc) hNw (hXm.at hS hFc) hC3 hP hD 0 3 rfl rfl rfl) rfl rfl hl.1 rfl (lv_room (Nat.le_of_ble_eq_true rfl)) dL_setShelf_7 ⟨Nat.le_of_ble_eq_true rfl, Nat.le_of_ble_eq_true rfl⟩) hS (fun q _ h => hFc q h) hFc (fun q _ h => hFc q h) (fun E9 ce9 q9 _ t9_ H1 locs ht_ hvm_ _ hbx_ hz_ hk_ hS hce_ hcv_ hcl_ => ?_) (fun r_1 u_ t_ H1 locs ht_ hvm_ hw_ hB_ hz_ hk_ hS => ?_)
  · obtain ⟨hxc, hP1, hD1⟩ := hbx_
    rw [ht_] at hP1
    have hP := hP1
    have hD := hD1.weaken (fun _ q _ h => hFc q.1 h)
    rcases hxc with hxc | hxc | hxc
    · obtain ⟨rfl, hc9⟩ := hxc
      refine vx_catch (own := RL) (name := eI) hown [] ⟨0, 12, 15, 13⟩ [⟨0, 12, 19, 15⟩, ⟨0, 12, 23, 17⟩] (by rw [htab]; rfl) (fun z hz => absurd hz List.not_mem_nil) (by decide) (by decide) (hts (.classLink RL 13 eI) (by decide +kernel)) (hXm.1.use _ (by decide +kernel)) hce_ hcv_ hcl_ ?_
      refine lv_astore (lv' := [(5, .ref q9), (0, .ref (a 0)), (1, .int y), (2, .int z), (3, .int u), (4, .ref (a 14))]) hx hb dL_setShelf_15 hl (by decide) rfl (fun ls hl => ?_)
      refine lv_iconst (v := (nI 1)) hx hb dL_setShelf_17 (by decide) ?_
      refine W.widen (k := 2) (n := 12) (by decide) (by decide) ?_
      refine vx_ret ?_
      exact W.iret (v := (nI 1)) hx hb hr (fun t ht hW => ⟨⟨(nI 1), (A, (K, b, n, T), ou), rfl, Or.inr ⟨(Or.inl ⟨hc9, rfl⟩), rfl⟩, by rw [ht]; exact hP, hD⟩, hS.F ht⟩) hS.2.2 dL_setShelf_18
    · obtain ⟨rfl, hc9⟩ := hxc
      refine vx_catch (own := RL) (name := eA) hown [⟨0, 12, 15, 13⟩] ⟨0, 12, 19, 15⟩ [⟨0, 12, 23, 17⟩] (by rw [htab]; rfl) (fun z hz => by
        simp only [List.mem_cons, List.not_mem_nil, or_false] at hz
        rcases hz with rfl
        · exact Or.inr ⟨by decide, eI, hts (.classLink RL 13 eI) (by decide +kernel), hC3.1⟩) (by decide) (by decide) (hts (.classLink RL 15 eA) (by decide +kernel)) (hXm.1.use _ (by decide +kernel)) hce_ hcv_ hcl_ ?_
      refine lv_astore (lv' := [(5, .ref q9), (0, .ref (a 0)), (1, .int y), (2, .int z), (3, .int u), (4, .ref (a 14))]) hx hb dL_setShelf_19 hl (by decide) rfl (fun ls hl => ?_)
      refine lv_iconst (v := (nI 2)) hx hb dL_setShelf_21 (by decide) ?_
      refine W.widen (k := 2) (n := 12) (by decide) (by decide) ?_
      refine vx_ret ?_
      exact W.iret (v := (nI 2)) hx hb hr (fun t ht hW => ⟨⟨(nI 2), (A, (K, b, n, T), ou), rfl, Or.inr ⟨(Or.inr (Or.inl ⟨hc9, rfl⟩)), rfl⟩, by rw [ht]; exact hP, hD⟩, hS.F ht⟩) hS.2.2 dL_setShelf_22
    · obtain ⟨rfl, hc9⟩ := hxc
      refine vx_catch (own := RL) (name := eS) hown [⟨0, 12, 15, 13⟩, ⟨0, 12, 19, 15⟩] ⟨0, 12, 23, 17⟩ [] (by rw [htab]; rfl) (fun z hz => by
        simp only [List.mem_cons, List.not_mem_nil, or_false] at hz
        rcases hz with rfl | rfl
        · exact Or.inr ⟨by decide, eI, hts (.classLink RL 13 eI) (by decide +kernel), hC3.2.1⟩
        · exact Or.inr ⟨by decide, eA, hts (.classLink RL 15 eA) (by decide +kernel), hC3.2.2⟩) (by decide) (by decide) (hts (.classLink RL 17 eS) (by decide +kernel)) (hXm.1.use _ (by decide +kernel)) hce_ hcv_ hcl_ ?_
      refine lv_astore (lv' := [(5, .ref q9), (0, .ref (a 0)), (1, .int y), (2, .int z), (3, .int u), (4, .ref (a 14))]) hx hb dL_setShelf_23 hl (by decide) rfl (fun ls hl => ?_)
      refine lv_iconst (v := (nI 3)) hx hb dL_setShelf_25 (by decide) ?_
      refine W.widen (k := 2) (n := 12) (by decide) (by decide) ?_
      refine vx_ret ?_
      exact W.iret (v := (nI 3)) hx hb hr (fun t ht hW => ⟨⟨(nI 3), (A, (K, b, n, T), ou), rfl, Or.inr ⟨(Or.inr (Or.inr ⟨hc9, rfl⟩)), rfl⟩, by rw [ht]; exact hP, hD⟩, hS.F ht⟩) hS.2.2 dL_setShelf_26
  obtain ⟨hP1, hD1⟩ := hB_
  rw [ht_] at hP1
  have hP := hP1
  have hD := hD1.weaken (fun _ q _ h => hFc q.1 h)
  clear hP1 hD1 hFc hk_ hz_ hvm_ ht_
  generalize H1 = H at hP hS ⊢
  refine lv_i2l (v := r_1.toInt64) hx hb dL_setShelf_10 rfl ?_
  refine va_last hx hb hK hP hD hS 86 3 rfl rfl (vp_in_nI (by decide) (by decide)) dL_setShelf_11 (fun H locs hP hD hS => ?_)
  replace hP : va_P (dC, dI) vwCl (LW cI cV cW cL a (svA n A) (setK (svK n K) 6 (((K 6).1), ((K 6).2.1), ((K 6).2.2.1), mk8 (upd ((K 6).2.2.2 0) (ix y) z) (upd ((K 6).2.2.2 1) (ix y) u) ((K 6).2.2.2 2) ((K 6).2.2.2 3) ((K 6).2.2.2 4) ((K 6).2.2.2 5) ((K 6).2.2.2 6) ((K 6).2.2.2 7)), b, svN n, T) M (vp_updL ou (nI 0).toNatClampNeg r_1.toInt64)) H := hP
  replace hD : va_D Af (LW cI cV cW cL a (svA n A) (setK (svK n K) 6 (((K 6).1), ((K 6).2.1), ((K 6).2.2.1), mk8 (upd ((K 6).2.2.2 0) (ix y) z) (upd ((K 6).2.2.2 1) (ix y) u) ((K 6).2.2.2 2) ((K 6).2.2.2 3) ((K 6).2.2.2 4) ((K 6).2.2.2 5) ((K 6).2.2.2 6) ((K 6).2.2.2 7)), b, svN n, T) M (vp_updL ou (nI 0).toNatClampNeg r_1.toInt64)) := hD
  refine lv_goto (tgt := 27) hx hb dL_setShelf_12 (by decide) ?_
  refine lv_iconst (v := (nI 0)) hx hb dL_setShelf_27 (by decide) ?_
  refine W.widen (k := 2) (n := 12) (by decide) (by decide) ?_
  refine vx_ret ?_
  exact W.iret (v := (nI 0)) hx hb hr (fun t ht hW => ⟨⟨(nI 0), ((svA n A), (setK (svK n K) 6 (((K 6).1), ((K 6).2.1), ((K 6).2.2.1), mk8 (upd ((K 6).2.2.2 0) (ix y) z) (upd ((K 6).2.2.2 1) (ix y) u) ((K 6).2.2.2 2) ((K 6).2.2.2 3) ((K 6).2.2.2 4) ((K 6).2.2.2 5) ((K 6).2.2.2 6) ((K 6).2.2.2 7)), b, svN n, T), vp_updL ou (nI 0).toNatClampNeg r_1.toInt64), rfl, Or.inl ⟨rfl, r_1, hw_, rfl⟩, by rw [ht]; exact hP, hD⟩, hS.F ht⟩) hS.2.2 dL_setShelf_28
theorem hdX5_addRecord : yX5_addRecord.cls = RX5 ∧ yX5_addRecord.cls ≠ "java/lang/invoke/MethodHandle" ∧ yX5_addRecord.cls ≠ "java/lang/invoke/VarHandle" ∧ (parseMethodDescriptor yX5_addRecord.desc).map (fun d => d.parameters.length) = some 2 := by decide +kernel
set_option maxHeartbeats 4000000 in
set_option maxRecDepth 100000 in
theorem hL_addRecord (l : Launch) (dC : Nat → ClassId) (dI : Nat → Nat → Nat) (cI cV cW cL : ClassId) (wa sw : Nat) (ad aK aV : Nat → Nat) (sa : Nat → Nat) (sz : Nat) (a : Nat → Nat) (A : Nat → Nat → Nat) (hlt : l.stackTraces = false) (K : Nat → VS) (b : CS) (n : Nat) (T : TS) (M : MS) (ou : Nat → Int64) (y : Int32) (z : Int32) (hc : ((K 6).1) ≤ 16) (hn6 : n ≤ 6) : Met l yL_addRecord wsL_addRecord ({ frames := 8, cells := 3, slots := 18, locals := 143 }) (pL sa wa sw ad aK aV (dC, dI) (tyL cI cV cW cL) sz [.ref (a 0), .int y, .int z, .ref (a 14)] (LW cI cV cW cL a A (K, b, n, T) M ou)) (va_Qi (fun (r_ : Int32) (w9 : HU) => (r_ = nI 0 ∧ ∃ v9 : Int32, (v9 = nI ((K 6).1) ∧ cxAdd ((K 6).2.2.2 0) ((K 6).2.2.2 2) ((K 6).1) y z = 0) ∧ w9 = ((svA n A), (setK (svK n K) 6 (((K 6).1) + 1, ((K 6).2.1), ((K 6).2.2.1), mk8 ((K 6).2.2.2 0) ((K 6).2.2.2 1) (upd ((K 6).2.2.2 2) (ix z) (((K 6).2.2.2 2) (ix z) + y)) (upd ((K 6).2.2.2 3) ((K 6).1) y) (upd ((K 6).2.2.2 4) ((K 6).1) (nI (ix z))) (upd ((K 6).2.2.2 5) ((K 6).1) (nI (ix z))) (upd ((K 6).2.2.2 6) ((K 6).1) 0) (upd ((K 6).2.2.2 7) ((K 6).1) 0)), b, svN n, T), vp_updL ou (nI 0).toNatClampNeg v9.toInt64)) ∨ (((cxAdd ((K 6).2.2.2 0) ((K 6).2.2.2 2) ((K 6).1) y z = 1 ∧ r_ = nI 1) ∨ (cxAdd ((K 6).2.2.2 0) ((K 6).2.2.2 2) ((K 6).1) y z = 2 ∧ r_ = nI 2) ∨ (cxAdd ((K 6).2.2.2 0) ((K 6).2.2.2 2) ((K 6).1) y z = 3 ∧ r_ = nI 3)) ∧ w9 = (A, (K, b, n, T), ou))) (fun (w9 : HU) t => qL (dC, dI) (va_A (LW cI cV cW cL a A (K, b, n, T) M ou) sz) (LW cI cV cW cL a w9.1 w9.2.1 M w9.2.2) t) (va_A (LW cI cV cW cL a A (K, b, n, T) M ou) sz)) 3 18 (va_A (LW cI cV cW cL a A (K, b, n, T) M ou) sz) := by
  refine met_of_vx (vx_ofWH (cc := cL_addRecord) (maxL := 5) (ret := (some .int)) (hh := [(0, 10, 13, 13), (0, 10, 17, 15), (0, 10, 21, 17)]) (by decide) rfl ?_)
  intro p e s m args below meth c s₁ B hml hv
  obtain ⟨rfl, hsz, hP, hK, hD0, hIm, hNw, hXm, hC3⟩ := hv
  have hx := B.exec
  have hb := B.bytes
  have hr := B.returns
  have hts := atoms_spec (ws := wsL_addRecord) B.pre
  have hown : s.vm.findClass RL = some m.cls := findClass_of_methodNamed B.named
  have hlocks := B.notSynchronized
  have htab := vx_table (x := yL_addRecord) B (hts _ List.mem_cons_self)
  subst hsz
  have hD := hD0.self (sz := s.heap.size)
  generalize hAe : va_A (LW cI cV cW cL a A (K, b, n, T) M ou) s.heap.size = Af at hD hIm hXm ⊢
  have hA : ∀ q : Nat, s.heap.size ≤ q → Af q := fun q h => by rw [← hAe]; exact Or.inr h
  have hS : va_S Af s.heap s.heap [] := va_S.rf
  refine w_gen hP hS (fun H locs hP hS => ?_)
  have hl := lv_entry ([.ref (a 0), .int y, .int z, .ref (a 14)]) (n := 5) (Nat.le_of_ble_eq_true rfl)
  rw [lg_entry_eq]
  generalize (lg_sl ([.ref (a 0), .int y, .int z, .ref (a 14)]) ++ List.replicate (5 - (lg_sl ([.ref (a 0), .int y, .int z, .ref (a 14)])).length) Slot.unset).toArray = ls at hl ⊢
  replace hl : lv_has ls 5 [(0, .ref (a 0)), (1, .int y), (2, .int z), (3, .ref (a 14))] := hl
  refine lv_aload_n hx hb dL_addRecord_0 rfl (lv_at hl 3 rfl) ?_
  refine lv_iconst (v := (nI 0)) hx hb dL_addRecord_1 (by decide) ?_
  refine lv_aload_n hx hb dL_addRecord_2 rfl (lv_at hl 0 rfl) ?_
  refine lv_iload_n hx hb dL_addRecord_3 rfl (lv_at hl 1 rfl) ?_
  refine lv_iload_n hx hb dL_addRecord_4 rfl (lv_at hl 2 rfl) ?_
  have hFc := freeW hD hS hA
  refine vx_calli (vx_runV (As := [.int y, .int z]) (rest := [.int (nI 0), .ref (a 14)]) ⟨hx, hb, hml, hown, hts⟩ (aX5_addRecord l dC dI cI cV cW cL wa sw ad aK aV sa H.size a A hlt K b n T M ou y z hc hn6) (cwV 2 hts gL_addRecord_X5_addRecord rfl rfl rfl hdX5_addRecord ⟨Nat.le_of_ble_eq_true rfl, Nat.le_of_ble_eq_true rfl⟩) (pL_V (A := Af) hK (imW hIm hS hFc) hNw (hXm.at hS hFc) hC3 hP hD 0 3 rfl rfl rfl) rfl rfl hl.1 rfl (lv_room (Nat.le_of_ble_eq_true rfl)) dL_addRecord_5 ⟨Nat.le_of_ble_eq_true rfl, Nat.le_of_ble_eq_true rfl⟩) hS (fun q _ h => hFc q h) hFc (fun q _ h => hFc q h) (fun E9 ce9 q9 _ t9_ H1 locs ht_ hvm_ _ hbx_ hz_ hk_ hS hce_ hcv_ hcl_ => ?_) (fun r_1 u_ t_ H1 locs ht_ hvm_ hw_ hB_ hz_ hk_ hS => ?_)
  · obtain ⟨hxc, hP1, hD1⟩ := hbx_
    rw [ht_] at hP1
    have hP := hP1
    have hD := hD1.weaken (fun _ q _ h => hFc q.1 h)
    rcases hxc with hxc | hxc | hxc
    · obtain ⟨rfl, hc9⟩ := hxc
      refine vx_catch (own := RL) (name := eI) hown [] ⟨0, 10, 13, 13⟩ [⟨0, 10, 17, 15⟩, ⟨0, 10, 21, 17⟩] (by rw [htab]; rfl) (fun z hz => absurd hz List.not_mem_nil) (by decide) (by decide) (hts (.classLink RL 13 eI) (by decide +kernel)) (hXm.1.use _ (by decide +kernel)) hce_ hcv_ hcl_ ?_
      refine lv_astore (lv' := [(4, .ref q9), (0, .ref (a 0)), (1, .int y), (2, .int z), (3, .ref (a 14))]) hx hb dL_addRecord_13 hl (by decide) rfl (fun ls hl => ?_)
      refine lv_iconst (v := (nI 1)) hx hb dL_addRecord_15 (by decide) ?_
      refine W.widen (k := 3) (n := 18) (by decide) (by decide) ?_
      refine vx_ret ?_
      exact W.iret (v := (nI 1)) hx hb hr (fun t ht hW => ⟨⟨(nI 1), (A, (K, b, n, T), ou), rfl, Or.inr ⟨(Or.inl ⟨hc9, rfl⟩), rfl⟩, by rw [ht]; exact hP, hD⟩, hS.F ht⟩) hS.2.2 dL_addRecord_16
    · obtain ⟨rfl, hc9⟩ := hxc
      refine vx_catch (own := RL) (name := eA) hown [⟨0, 10, 13, 13⟩] ⟨0, 10, 17, 15⟩ [⟨0, 10, 21, 17⟩] (by rw [htab]; rfl) (fun z hz => by
        simp only [List.mem_cons, List.not_mem_nil, or_false] at hz
        rcases hz with rfl
        · exact Or.inr ⟨by decide, eI, hts (.classLink RL 13 eI) (by decide +kernel), hC3.1⟩) (by decide) (by decide) (hts (.classLink RL 15 eA) (by decide +kernel)) (hXm.1.use _ (by decide +kernel)) hce_ hcv_ hcl_ ?_
      refine lv_astore (lv' := [(4, .ref q9), (0, .ref (a 0)), (1, .int y), (2, .int z), (3, .ref (a 14))]) hx hb dL_addRecord_17 hl (by decide) rfl (fun ls hl => ?_)
      refine lv_iconst (v := (nI 2)) hx hb dL_addRecord_19 (by decide) ?_
      refine W.widen (k := 3) (n := 18) (by decide) (by decide) ?_
      refine vx_ret ?_
      exact W.iret (v := (nI 2)) hx hb hr (fun t ht hW => ⟨⟨(nI 2), (A, (K, b, n, T), ou), rfl, Or.inr ⟨(Or.inr (Or.inl ⟨hc9, rfl⟩)), rfl⟩, by rw [ht]; exact hP, hD⟩, hS.F ht⟩) hS.2.2 dL_addRecord_20
    · obtain ⟨rfl, hc9⟩ := hxc
      refine vx_catch (own := RL) (name := eS) hown [⟨0, 10, 13, 13⟩, ⟨0, 10, 17, 15⟩] ⟨0, 10, 21, 17⟩ [] (by rw [htab]; rfl) (fun z hz => by
        simp only [List.mem_cons, List.not_mem_nil, or_false] at hz
        rcases hz with rfl | rfl
        · exact Or.inr ⟨by decide, eI, hts (.classLink RL 13 eI) (by decide +kernel), hC3.2.1⟩
        · exact Or.inr ⟨by decide, eA, hts (.classLink RL 15 eA) (by decide +kernel), hC3.2.2⟩) (by decide) (by decide) (hts (.classLink RL 17 eS) (by decide +kernel)) (hXm.1.use _ (by decide +kernel)) hce_ hcv_ hcl_ ?_
      refine lv_astore (lv' := [(4, .ref q9), (0, .ref (a 0)), (1, .int y), (2, .int z), (3, .ref (a 14))]) hx hb dL_addRecord_21 hl (by decide) rfl (fun ls hl => ?_)
      refine lv_iconst (v := (nI 3)) hx hb dL_addRecord_23 (by decide) ?_
      refine W.widen (k := 3) (n := 18) (by decide) (by decide) ?_
      refine vx_ret ?_
      exact W.iret (v := (nI 3)) hx hb hr (fun t ht hW => ⟨⟨(nI 3), (A, (K, b, n, T), ou), rfl, Or.inr ⟨(Or.inr (Or.inr ⟨hc9, rfl⟩)), rfl⟩, by rw [ht]; exact hP, hD⟩, hS.F ht⟩) hS.2.2 dL_addRecord_24
  obtain ⟨hP1, hD1⟩ := hB_
  rw [ht_] at hP1
  have hP := hP1
  have hD := hD1.weaken (fun _ q _ h => hFc q.1 h)
  clear hP1 hD1 hFc hk_ hz_ hvm_ ht_
  generalize H1 = H at hP hS ⊢
  refine lv_i2l (v := r_1.toInt64) hx hb dL_addRecord_8 rfl ?_
  refine va_last hx hb hK hP hD hS 86 3 rfl rfl (vp_in_nI (by decide) (by decide)) dL_addRecord_9 (fun H locs hP hD hS => ?_)
  replace hP : va_P (dC, dI) vwCl (LW cI cV cW cL a (svA n A) (setK (svK n K) 6 (((K 6).1) + 1, ((K 6).2.1), ((K 6).2.2.1), mk8 ((K 6).2.2.2 0) ((K 6).2.2.2 1) (upd ((K 6).2.2.2 2) (ix z) (((K 6).2.2.2 2) (ix z) + y)) (upd ((K 6).2.2.2 3) ((K 6).1) y) (upd ((K 6).2.2.2 4) ((K 6).1) (nI (ix z))) (upd ((K 6).2.2.2 5) ((K 6).1) (nI (ix z))) (upd ((K 6).2.2.2 6) ((K 6).1) 0) (upd ((K 6).2.2.2 7) ((K 6).1) 0)), b, svN n, T) M (vp_updL ou (nI 0).toNatClampNeg r_1.toInt64)) H := hP
  replace hD : va_D Af (LW cI cV cW cL a (svA n A) (setK (svK n K) 6 (((K 6).1) + 1, ((K 6).2.1), ((K 6).2.2.1), mk8 ((K 6).2.2.2 0) ((K 6).2.2.2 1) (upd ((K 6).2.2.2 2) (ix z) (((K 6).2.2.2 2) (ix z) + y)) (upd ((K 6).2.2.2 3) ((K 6).1) y) (upd ((K 6).2.2.2 4) ((K 6).1) (nI (ix z))) (upd ((K 6).2.2.2 5) ((K 6).1) (nI (ix z))) (upd ((K 6).2.2.2 6) ((K 6).1) 0) (upd ((K 6).2.2.2 7) ((K 6).1) 0)), b, svN n, T) M (vp_updL ou (nI 0).toNatClampNeg r_1.toInt64)) := hD
  refine lv_goto (tgt := 25) hx hb dL_addRecord_10 (by decide) ?_
  refine lv_iconst (v := (nI 0)) hx hb dL_addRecord_25 (by decide) ?_
  refine W.widen (k := 3) (n := 18) (by decide) (by decide) ?_
  refine vx_ret ?_
  exact W.iret (v := (nI 0)) hx hb hr (fun t ht hW => ⟨⟨(nI 0), ((svA n A), (setK (svK n K) 6 (((K 6).1) + 1, ((K 6).2.1), ((K 6).2.2.1), mk8 ((K 6).2.2.2 0) ((K 6).2.2.2 1) (upd ((K 6).2.2.2 2) (ix z) (((K 6).2.2.2 2) (ix z) + y)) (upd ((K 6).2.2.2 3) ((K 6).1) y) (upd ((K 6).2.2.2 4) ((K 6).1) (nI (ix z))) (upd ((K 6).2.2.2 5) ((K 6).1) (nI (ix z))) (upd ((K 6).2.2.2 6) ((K 6).1) 0) (upd ((K 6).2.2.2 7) ((K 6).1) 0)), b, svN n, T), vp_updL ou (nI 0).toNatClampNeg r_1.toInt64), rfl, Or.inl ⟨rfl, r_1, hw_, rfl⟩, by rw [ht]; exact hP, hD⟩, hS.F ht⟩) hS.2.2 dL_addRecord_26
theorem hdX5_removeRecord : yX5_removeRecord.cls = RX5 ∧ yX5_removeRecord.cls ≠ "java/lang/invoke/MethodHandle" ∧ yX5_removeRecord.cls ≠ "java/lang/invoke/VarHandle" ∧ (parseMethodDescriptor yX5_removeRecord.desc).map (fun d => d.parameters.length) = some 1 := by decide +kernel
set_option maxHeartbeats 4000000 in
set_option maxRecDepth 100000 in
theorem hL_removeRecord (l : Launch) (dC : Nat → ClassId) (dI : Nat → Nat → Nat) (cI cV cW cL : ClassId) (wa sw : Nat) (ad aK aV : Nat → Nat) (sa : Nat → Nat) (sz : Nat) (a : Nat → Nat) (A : Nat → Nat → Nat) (hlt : l.stackTraces = false) (K : Nat → VS) (b : CS) (n : Nat) (T : TS) (M : MS) (ou : Nat → Int64) (y : Int32) (hV : VO ((K 6).2.2.2 4) ((K 6).2.2.2 5) ((K 6).1)) (hn6 : n ≤ 6) : Met l yL_removeRecord wsL_removeRecord ({ frames := 8, cells := 1, slots := 6, locals := 142 }) (pL sa wa sw ad aK aV (dC, dI) (tyL cI cV cW cL) sz [.ref (a 0), .int y, .ref (a 14)] (LW cI cV cW cL a A (K, b, n, T) M ou)) (va_Qi (fun (r_ : Int32) (w9 : HU) => (r_ = nI 0 ∧ ∃ v9 : Int32, (v9 = ((K 6).2.2.2 4) (ix y) ∧ sHas y ((K 6).1) = true) ∧ w9 = ((svA n A), (setK (svK n K) 6 (((K 6).1) - 1, ((K 6).2.1), ((K 6).2.2.1), mk8 ((K 6).2.2.2 0) ((K 6).2.2.2 1) (upd ((K 6).2.2.2 2) (ix (((K 6).2.2.2 4) (ix y))) (((K 6).2.2.2 2) (ix (((K 6).2.2.2 4) (ix y))) - ((K 6).2.2.2 3) (ix y))) (fShf ((K 6).2.2.2 3) (ix y) (((K 6).1) - 1 - ix y)) (fShf ((K 6).2.2.2 4) (ix y) (((K 6).1) - 1 - ix y)) (fShf ((K 6).2.2.2 5) (ix y) (((K 6).1) - 1 - ix y)) (fShf ((K 6).2.2.2 6) (ix y) (((K 6).1) - 1 - ix y)) (fShf ((K 6).2.2.2 7) (ix y) (((K 6).1) - 1 - ix y))), b, svN n, T), vp_updL ou (nI 0).toNatClampNeg v9.toInt64)) ∨ (((sHas y ((K 6).1) = false ∧ r_ = nI 1)) ∧ w9 = (A, (K, b, n, T), ou))) (fun (w9 : HU) t => qL (dC, dI) (va_A (LW cI cV cW cL a A (K, b, n, T) M ou) sz) (LW cI cV cW cL a w9.1 w9.2.1 M w9.2.2) t) (va_A (LW cI cV cW cL a A (K, b, n, T) M ou) sz)) 1 6 (va_A (LW cI cV cW cL a A (K, b, n, T) M ou) sz) := by
  refine met_of_vx (vx_ofWH (cc := cL_removeRecord) (maxL := 4) (ret := (some .int)) (hh := [(0, 9, 12, 13)]) (by decide) rfl ?_)
  intro p e s m args below meth c s₁ B hml hv
  obtain ⟨rfl, hsz, hP, hK, hD0, hIm, hNw, hXm, hC3⟩ := hv
  have hx := B.exec
  have hb := B.bytes
  have hr := B.returns
  have hts := atoms_spec (ws := wsL_removeRecord) B.pre
  have hown : s.vm.findClass RL = some m.cls := findClass_of_methodNamed B.named
  have hlocks := B.notSynchronized
  have htab := vx_table (x := yL_removeRecord) B (hts _ List.mem_cons_self)
  subst hsz
  have hD := hD0.self (sz := s.heap.size)
  generalize hAe : va_A (LW cI cV cW cL a A (K, b, n, T) M ou) s.heap.size = Af at hD hIm hXm ⊢
  have hA : ∀ q : Nat, s.heap.size ≤ q → Af q := fun q h => by rw [← hAe]; exact Or.inr h
  have hS : va_S Af s.heap s.heap [] := va_S.rf
  refine w_gen hP hS (fun H locs hP hS => ?_)
  have hl := lv_entry ([.ref (a 0), .int y, .ref (a 14)]) (n := 4) (Nat.le_of_ble_eq_true rfl)
  rw [lg_entry_eq]
  generalize (lg_sl ([.ref (a 0), .int y, .ref (a 14)]) ++ List.replicate (4 - (lg_sl ([.ref (a 0), .int y, .ref (a 14)])).length) Slot.unset).toArray = ls at hl ⊢
  replace hl : lv_has ls 4 [(0, .ref (a 0)), (1, .int y), (2, .ref (a 14))] := hl
  refine lv_aload_n hx hb dL_removeRecord_0 rfl (lv_at hl 2 rfl) ?_
  refine lv_iconst (v := (nI 0)) hx hb dL_removeRecord_1 (by decide) ?_
  refine lv_aload_n hx hb dL_removeRecord_2 rfl (lv_at hl 0 rfl) ?_
  refine lv_iload_n hx hb dL_removeRecord_3 rfl (lv_at hl 1 rfl) ?_
  have hFc := freeW hD hS hA
  refine vx_calli (vx_runV (As := [.int y]) (rest := [.int (nI 0), .ref (a 14)]) ⟨hx, hb, hml, hown, hts⟩ (aX5_removeRecord l dC dI cI cV cW cL wa sw ad aK aV sa H.size a A hlt K b n T M ou y hV hn6) (cwV 1 hts gL_removeRecord_X5_removeRecord rfl rfl rfl hdX5_removeRecord ⟨Nat.le_of_ble_eq_true rfl, Nat.le_of_ble_eq_true rfl⟩) (pL_V (A := Af) hK (imW hIm hS hFc) hNw (hXm.at hS hFc) hC3 hP hD 0 3 rfl rfl rfl) rfl rfl hl.1 rfl (lv_room (Nat.le_of_ble_eq_true rfl)) dL_removeRecord_4 ⟨Nat.le_of_ble_eq_true rfl, Nat.le_of_ble_eq_true rfl⟩) hS (fun q _ h => hFc q h) hFc (fun q _ h => hFc q h) (fun E9 ce9 q9 _ t9_ H1 locs ht_ hvm_ _ hbx_ hz_ hk_ hS hce_ hcv_ hcl_ => ?_) (fun r_1 u_ t_ H1 locs ht_ hvm_ hw_ hB_ hz_ hk_ hS => ?_)
  · obtain ⟨hxc, hP1, hD1⟩ := hbx_
    rw [ht_] at hP1
    have hP := hP1
    have hD := hD1.weaken (fun _ q _ h => hFc q.1 h)
    obtain ⟨rfl, hc9⟩ := hxc
    refine vx_catch (own := RL) (name := eI) hown [] ⟨0, 9, 12, 13⟩ [] (by rw [htab]; rfl) (fun z hz => absurd hz List.not_mem_nil) (by decide) (by decide) (hts (.classLink RL 13 eI) (by decide +kernel)) (hXm.1.use _ (by decide +kernel)) hce_ hcv_ hcl_ ?_
    refine lv_astore_n (lv' := [(3, .ref q9), (0, .ref (a 0)), (1, .int y), (2, .ref (a 14))]) hx hb dL_removeRecord_12 rfl hl (by decide) rfl (fun ls hl => ?_)
    refine lv_iconst (v := (nI 1)) hx hb dL_removeRecord_13 (by decide) ?_
    refine W.widen (k := 1) (n := 6) (by decide) (by decide) ?_
    refine vx_ret ?_
    exact W.iret (v := (nI 1)) hx hb hr (fun t ht hW => ⟨⟨(nI 1), (A, (K, b, n, T), ou), rfl, Or.inr ⟨⟨hc9, rfl⟩, rfl⟩, by rw [ht]; exact hP, hD⟩, hS.F ht⟩) hS.2.2 dL_removeRecord_14
  obtain ⟨hP1, hD1⟩ := hB_
  rw [ht_] at hP1
  have hP := hP1
  have hD := hD1.weaken (fun _ q _ h => hFc q.1 h)
  clear hP1 hD1 hFc hk_ hz_ hvm_ ht_
  generalize H1 = H at hP hS ⊢
  refine lv_i2l (v := r_1.toInt64) hx hb dL_removeRecord_7 rfl ?_
  refine va_last hx hb hK hP hD hS 86 3 rfl rfl (vp_in_nI (by decide) (by decide)) dL_removeRecord_8 (fun H locs hP hD hS => ?_)
  replace hP : va_P (dC, dI) vwCl (LW cI cV cW cL a (svA n A) (setK (svK n K) 6 (((K 6).1) - 1, ((K 6).2.1), ((K 6).2.2.1), mk8 ((K 6).2.2.2 0) ((K 6).2.2.2 1) (upd ((K 6).2.2.2 2) (ix (((K 6).2.2.2 4) (ix y))) (((K 6).2.2.2 2) (ix (((K 6).2.2.2 4) (ix y))) - ((K 6).2.2.2 3) (ix y))) (fShf ((K 6).2.2.2 3) (ix y) (((K 6).1) - 1 - ix y)) (fShf ((K 6).2.2.2 4) (ix y) (((K 6).1) - 1 - ix y)) (fShf ((K 6).2.2.2 5) (ix y) (((K 6).1) - 1 - ix y)) (fShf ((K 6).2.2.2 6) (ix y) (((K 6).1) - 1 - ix y)) (fShf ((K 6).2.2.2 7) (ix y) (((K 6).1) - 1 - ix y))), b, svN n, T) M (vp_updL ou (nI 0).toNatClampNeg r_1.toInt64)) H := hP
  replace hD : va_D Af (LW cI cV cW cL a (svA n A) (setK (svK n K) 6 (((K 6).1) - 1, ((K 6).2.1), ((K 6).2.2.1), mk8 ((K 6).2.2.2 0) ((K 6).2.2.2 1) (upd ((K 6).2.2.2 2) (ix (((K 6).2.2.2 4) (ix y))) (((K 6).2.2.2 2) (ix (((K 6).2.2.2 4) (ix y))) - ((K 6).2.2.2 3) (ix y))) (fShf ((K 6).2.2.2 3) (ix y) (((K 6).1) - 1 - ix y)) (fShf ((K 6).2.2.2 4) (ix y) (((K 6).1) - 1 - ix y)) (fShf ((K 6).2.2.2 5) (ix y) (((K 6).1) - 1 - ix y)) (fShf ((K 6).2.2.2 6) (ix y) (((K 6).1) - 1 - ix y)) (fShf ((K 6).2.2.2 7) (ix y) (((K 6).1) - 1 - ix y))), b, svN n, T) M (vp_updL ou (nI 0).toNatClampNeg r_1.toInt64)) := hD
  refine lv_goto (tgt := 15) hx hb dL_removeRecord_9 (by decide) ?_
  refine lv_iconst (v := (nI 0)) hx hb dL_removeRecord_15 (by decide) ?_
  refine W.widen (k := 1) (n := 6) (by decide) (by decide) ?_
  refine vx_ret ?_
  exact W.iret (v := (nI 0)) hx hb hr (fun t ht hW => ⟨⟨(nI 0), ((svA n A), (setK (svK n K) 6 (((K 6).1) - 1, ((K 6).2.1), ((K 6).2.2.1), mk8 ((K 6).2.2.2 0) ((K 6).2.2.2 1) (upd ((K 6).2.2.2 2) (ix (((K 6).2.2.2 4) (ix y))) (((K 6).2.2.2 2) (ix (((K 6).2.2.2 4) (ix y))) - ((K 6).2.2.2 3) (ix y))) (fShf ((K 6).2.2.2 3) (ix y) (((K 6).1) - 1 - ix y)) (fShf ((K 6).2.2.2 4) (ix y) (((K 6).1) - 1 - ix y)) (fShf ((K 6).2.2.2 5) (ix y) (((K 6).1) - 1 - ix y)) (fShf ((K 6).2.2.2 6) (ix y) (((K 6).1) - 1 - ix y)) (fShf ((K 6).2.2.2 7) (ix y) (((K 6).1) - 1 - ix y))), b, svN n, T), vp_updL ou (nI 0).toNatClampNeg r_1.toInt64), rfl, Or.inl ⟨rfl, r_1, hw_, rfl⟩, by rw [ht]; exact hP, hD⟩, hS.F ht⟩) hS.2.2 dL_removeRecord_16
theorem hdX5_width : yX5_width.cls = RX5 ∧ yX5_width.cls ≠ "java/lang/invoke/MethodHandle" ∧ yX5_width.cls ≠ "java/lang/invoke/VarHandle" ∧ (parseMethodDescriptor yX5_width.desc).map (fun d => d.parameters.length) = some 1 := by decide +kernel
set_option maxHeartbeats 4000000 in
set_option maxRecDepth 100000 in
theorem hL_width (l : Launch) (dC : Nat → ClassId) (dI : Nat → Nat → Nat) (cI cV cW cL : ClassId) (wa sw : Nat) (ad aK aV : Nat → Nat) (sa : Nat → Nat) (sz : Nat) (a : Nat → Nat) (A : Nat → Nat → Nat) (hlt : l.stackTraces = false) (K : Nat → VS) (b : CS) (n : Nat) (T : TS) (M : MS) (ou : Nat → Int64) (y : Int32) (hc : ((K 6).1) ≤ 16) : Met l yL_width wsL_width ({ frames := 8, cells := 1, slots := 6, locals := 142 }) (pL sa wa sw ad aK aV (dC, dI) (tyL cI cV cW cL) sz [.ref (a 0), .int y, .ref (a 14)] (LW cI cV cW cL a A (K, b, n, T) M ou)) (va_Qi (fun (r_ : Int32) (w9 : HU) => (r_ = nI 0 ∧ ∃ v9 : Int32, (v9 = ((K 6).2.2.2 3) (ix y) ∧ sHas y ((K 6).1) = true) ∧ w9 = (A, (K, b, n, T), vp_updL ou (nI 0).toNatClampNeg v9.toInt64)) ∨ (((sHas y ((K 6).1) = false ∧ r_ = nI 1)) ∧ w9 = (A, (K, b, n, T), ou))) (fun (w9 : HU) t => qL (dC, dI) (va_A (LW cI cV cW cL a A (K, b, n, T) M ou) sz) (LW cI cV cW cL a w9.1 w9.2.1 M w9.2.2) t) (va_A (LW cI cV cW cL a A (K, b, n, T) M ou) sz)) 1 6 (va_A (LW cI cV cW cL a A (K, b, n, T) M ou) sz) := by
  refine met_of_vx (vx_ofWH (cc := cL_width) (maxL := 4) (ret := (some .int)) (hh := [(0, 9, 12, 13)]) (by decide) rfl ?_)
  intro p e s m args below meth c s₁ B hml hv
  obtain ⟨rfl, hsz, hP, hK, hD0, hIm, hNw, hXm, hC3⟩ := hv
  have hx := B.exec
  have hb := B.bytes
  have hr := B.returns
  have hts := atoms_spec (ws := wsL_width) B.pre
  have hown : s.vm.findClass RL = some m.cls := findClass_of_methodNamed B.named
  have hlocks := B.notSynchronized
  have htab := vx_table (x := yL_width) B (hts _ List.mem_cons_self)
  subst hsz
  have hD := hD0.self (sz := s.heap.size)
  generalize hAe : va_A (LW cI cV cW cL a A (K, b, n, T) M ou) s.heap.size = Af at hD hIm hXm ⊢
  have hA : ∀ q : Nat, s.heap.size ≤ q → Af q := fun q h => by rw [← hAe]; exact Or.inr h
  have hS : va_S Af s.heap s.heap [] := va_S.rf
  refine w_gen hP hS (fun H locs hP hS => ?_)
  have hl := lv_entry ([.ref (a 0), .int y, .ref (a 14)]) (n := 4) (Nat.le_of_ble_eq_true rfl)
  rw [lg_entry_eq]
  generalize (lg_sl ([.ref (a 0), .int y, .ref (a 14)]) ++ List.replicate (4 - (lg_sl ([.ref (a 0), .int y, .ref (a 14)])).length) Slot.unset).toArray = ls at hl ⊢
  replace hl : lv_has ls 4 [(0, .ref (a 0)), (1, .int y), (2, .ref (a 14))] := hl
  refine lv_aload_n hx hb dL_width_0 rfl (lv_at hl 2 rfl) ?_
  refine lv_iconst (v := (nI 0)) hx hb dL_width_1 (by decide) ?_
  refine lv_aload_n hx hb dL_width_2 rfl (lv_at hl 0 rfl) ?_
  refine lv_iload_n hx hb dL_width_3 rfl (lv_at hl 1 rfl) ?_
  have hFc := freeW hD hS hA
  refine vx_calli (vx_runV (As := [.int y]) (rest := [.int (nI 0), .ref (a 14)]) ⟨hx, hb, hml, hown, hts⟩ (aX5_width l dC dI cI cV cW cL wa sw ad aK aV sa H.size a A hlt K b n T M ou y hc) (cwV 1 hts gL_width_X5_width rfl rfl rfl hdX5_width ⟨Nat.le_of_ble_eq_true rfl, Nat.le_of_ble_eq_true rfl⟩) (pL_V (A := Af) hK (imW hIm hS hFc) hNw (hXm.at hS hFc) hC3 hP hD 0 3 rfl rfl rfl) rfl rfl hl.1 rfl (lv_room (Nat.le_of_ble_eq_true rfl)) dL_width_4 ⟨Nat.le_of_ble_eq_true rfl, Nat.le_of_ble_eq_true rfl⟩) hS (fun q _ h => hFc q h) hFc (fun q _ h => hFc q h) (fun E9 ce9 q9 _ t9_ H1 locs ht_ hvm_ _ hbx_ hz_ hk_ hS hce_ hcv_ hcl_ => ?_) (fun r_1 u_ t_ H1 locs ht_ hvm_ hw_ hB_ hz_ hk_ hS => ?_)
  · obtain ⟨hxc, hP1, hD1⟩ := hbx_
    rw [ht_] at hP1
    have hP := hP1
    have hD := hD1.weaken (fun _ q _ h => hFc q.1 h)
    obtain ⟨rfl, hc9⟩ := hxc
    refine vx_catch (own := RL) (name := eI) hown [] ⟨0, 9, 12, 13⟩ [] (by rw [htab]; rfl) (fun z hz => absurd hz List.not_mem_nil) (by decide) (by decide) (hts (.classLink RL 13 eI) (by decide +kernel)) (hXm.1.use _ (by decide +kernel)) hce_ hcv_ hcl_ ?_
    refine lv_astore_n (lv' := [(3, .ref q9), (0, .ref (a 0)), (1, .int y), (2, .ref (a 14))]) hx hb dL_width_12 rfl hl (by decide) rfl (fun ls hl => ?_)
    refine lv_iconst (v := (nI 1)) hx hb dL_width_13 (by decide) ?_
    refine W.widen (k := 1) (n := 6) (by decide) (by decide) ?_
    refine vx_ret ?_
    exact W.iret (v := (nI 1)) hx hb hr (fun t ht hW => ⟨⟨(nI 1), (A, (K, b, n, T), ou), rfl, Or.inr ⟨⟨hc9, rfl⟩, rfl⟩, by rw [ht]; exact hP, hD⟩, hS.F ht⟩) hS.2.2 dL_width_14
  obtain ⟨hP1, hD1⟩ := hB_
  rw [ht_] at hP1
  have hP := hP1
  have hD := hD1.weaken (fun _ q _ h => hFc q.1 h)
  clear hP1 hD1 hFc hk_ hz_ hvm_ ht_
  generalize H1 = H at hP hS ⊢
  refine lv_i2l (v := r_1.toInt64) hx hb dL_width_7 rfl ?_
  refine va_last hx hb hK hP hD hS 86 3 rfl rfl (vp_in_nI (by decide) (by decide)) dL_width_8 (fun H locs hP hD hS => ?_)
  replace hP : va_P (dC, dI) vwCl (LW cI cV cW cL a A (K, b, n, T) M (vp_updL ou (nI 0).toNatClampNeg r_1.toInt64)) H := hP
  replace hD : va_D Af (LW cI cV cW cL a A (K, b, n, T) M (vp_updL ou (nI 0).toNatClampNeg r_1.toInt64)) := hD
  refine lv_goto (tgt := 15) hx hb dL_width_9 (by decide) ?_
  refine lv_iconst (v := (nI 0)) hx hb dL_width_15 (by decide) ?_
  refine W.widen (k := 1) (n := 6) (by decide) (by decide) ?_
  refine vx_ret ?_
  exact W.iret (v := (nI 0)) hx hb hr (fun t ht hW => ⟨⟨(nI 0), (A, (K, b, n, T), vp_updL ou (nI 0).toNatClampNeg r_1.toInt64), rfl, Or.inl ⟨rfl, r_1, hw_, rfl⟩, by rw [ht]; exact hP, hD⟩, hS.F ht⟩) hS.2.2 dL_width_16
theorem hdX5_shelfOf : yX5_shelfOf.cls = RX5 ∧ yX5_shelfOf.cls ≠ "java/lang/invoke/MethodHandle" ∧ yX5_shelfOf.cls ≠ "java/lang/invoke/VarHandle" ∧ (parseMethodDescriptor yX5_shelfOf.desc).map (fun d => d.parameters.length) = some 1 := by decide +kernel
set_option maxHeartbeats 4000000 in
set_option maxRecDepth 100000 in
theorem hL_shelfOf (l : Launch) (dC : Nat → ClassId) (dI : Nat → Nat → Nat) (cI cV cW cL : ClassId) (wa sw : Nat) (ad aK aV : Nat → Nat) (sa : Nat → Nat) (sz : Nat) (a : Nat → Nat) (A : Nat → Nat → Nat) (hlt : l.stackTraces = false) (K : Nat → VS) (b : CS) (n : Nat) (T : TS) (M : MS) (ou : Nat → Int64) (y : Int32) (hc : ((K 6).1) ≤ 16) : Met l yL_shelfOf wsL_shelfOf ({ frames := 8, cells := 1, slots := 6, locals := 142 }) (pL sa wa sw ad aK aV (dC, dI) (tyL cI cV cW cL) sz [.ref (a 0), .int y, .ref (a 14)] (LW cI cV cW cL a A (K, b, n, T) M ou)) (va_Qi (fun (r_ : Int32) (w9 : HU) => (r_ = nI 0 ∧ ∃ v9 : Int32, (v9 = ((K 6).2.2.2 4) (ix y) ∧ sHas y ((K 6).1) = true) ∧ w9 = (A, (K, b, n, T), vp_updL ou (nI 0).toNatClampNeg v9.toInt64)) ∨ (((sHas y ((K 6).1) = false ∧ r_ = nI 1)) ∧ w9 = (A, (K, b, n, T), ou))) (fun (w9 : HU) t => qL (dC, dI) (va_A (LW cI cV cW cL a A (K, b, n, T) M ou) sz) (LW cI cV cW cL a w9.1 w9.2.1 M w9.2.2) t) (va_A (LW cI cV cW cL a A (K, b, n, T) M ou) sz)) 1 6 (va_A (LW cI cV cW cL a A (K, b, n, T) M ou) sz) := by
  refine met_of_vx (vx_ofWH (cc := cL_shelfOf) (maxL := 4) (ret := (some .int)) (hh := [(0, 9, 12, 13)]) (by decide) rfl ?_)
  intro p e s m args below meth c s₁ B hml hv
  obtain ⟨rfl, hsz, hP, hK, hD0, hIm, hNw, hXm, hC3⟩ := hv
  have hx := B.exec
  have hb := B.bytes
  have hr := B.returns
  have hts := atoms_spec (ws := wsL_shelfOf) B.pre
  have hown : s.vm.findClass RL = some m.cls := findClass_of_methodNamed B.named
  have hlocks := B.notSynchronized
  have htab := vx_table (x := yL_shelfOf) B (hts _ List.mem_cons_self)
  subst hsz
  have hD := hD0.self (sz := s.heap.size)
  generalize hAe : va_A (LW cI cV cW cL a A (K, b, n, T) M ou) s.heap.size = Af at hD hIm hXm ⊢
  have hA : ∀ q : Nat, s.heap.size ≤ q → Af q := fun q h => by rw [← hAe]; exact Or.inr h
  have hS : va_S Af s.heap s.heap [] := va_S.rf
  refine w_gen hP hS (fun H locs hP hS => ?_)
  have hl := lv_entry ([.ref (a 0), .int y, .ref (a 14)]) (n := 4) (Nat.le_of_ble_eq_true rfl)
  rw [lg_entry_eq]
  generalize (lg_sl ([.ref (a 0), .int y, .ref (a 14)]) ++ List.replicate (4 - (lg_sl ([.ref (a 0), .int y, .ref (a 14)])).length) Slot.unset).toArray = ls at hl ⊢
  replace hl : lv_has ls 4 [(0, .ref (a 0)), (1, .int y), (2, .ref (a 14))] := hl
  refine lv_aload_n hx hb dL_shelfOf_0 rfl (lv_at hl 2 rfl) ?_
  refine lv_iconst (v := (nI 0)) hx hb dL_shelfOf_1 (by decide) ?_
  refine lv_aload_n hx hb dL_shelfOf_2 rfl (lv_at hl 0 rfl) ?_
  refine lv_iload_n hx hb dL_shelfOf_3 rfl (lv_at hl 1 rfl) ?_
  have hFc := freeW hD hS hA
  refine vx_calli (vx_runV (As := [.int y]) (rest := [.int (nI 0), .ref (a 14)]) ⟨hx, hb, hml, hown, hts⟩ (aX5_shelfOf l dC dI cI cV cW cL wa sw ad aK aV sa H.size a A hlt K b n T M ou y hc) (cwV 1 hts gL_shelfOf_X5_shelfOf rfl rfl rfl hdX5_shelfOf ⟨Nat.le_of_ble_eq_true rfl, Nat.le_of_ble_eq_true rfl⟩) (pL_V (A := Af) hK (imW hIm hS hFc) hNw (hXm.at hS hFc) hC3 hP hD 0 3 rfl rfl rfl) rfl rfl hl.1 rfl (lv_room (Nat.le_of_ble_eq_true rfl)) dL_shelfOf_4 ⟨Nat.le_of_ble_eq_true rfl, Nat.le_of_ble_eq_true rfl⟩) hS (fun q _ h => hFc q h) hFc (fun q _ h => hFc q h) (fun E9 ce9 q9 _ t9_ H1 locs ht_ hvm_ _ hbx_ hz_ hk_ hS hce_ hcv_ hcl_ => ?_) (fun r_1 u_ t_ H1 locs ht_ hvm_ hw_ hB_ hz_ hk_ hS => ?_)
  · obtain ⟨hxc, hP1, hD1⟩ := hbx_
    rw [ht_] at hP1
    have hP := hP1
    have hD := hD1.weaken (fun _ q _ h => hFc q.1 h)
    obtain ⟨rfl, hc9⟩ := hxc
    refine vx_catch (own := RL) (name := eI) hown [] ⟨0, 9, 12, 13⟩ [] (by rw [htab]; rfl) (fun z hz => absurd hz List.not_mem_nil) (by decide) (by decide) (hts (.classLink RL 13 eI) (by decide +kernel)) (hXm.1.use _ (by decide +kernel)) hce_ hcv_ hcl_ ?_
    refine lv_astore_n (lv' := [(3, .ref q9), (0, .ref (a 0)), (1, .int y), (2, .ref (a 14))]) hx hb dL_shelfOf_12 rfl hl (by decide) rfl (fun ls hl => ?_)
    refine lv_iconst (v := (nI 1)) hx hb dL_shelfOf_13 (by decide) ?_
    refine W.widen (k := 1) (n := 6) (by decide) (by decide) ?_
    refine vx_ret ?_
    exact W.iret (v := (nI 1)) hx hb hr (fun t ht hW => ⟨⟨(nI 1), (A, (K, b, n, T), ou), rfl, Or.inr ⟨⟨hc9, rfl⟩, rfl⟩, by rw [ht]; exact hP, hD⟩, hS.F ht⟩) hS.2.2 dL_shelfOf_14
  obtain ⟨hP1, hD1⟩ := hB_
  rw [ht_] at hP1
  have hP := hP1
  have hD := hD1.weaken (fun _ q _ h => hFc q.1 h)
  clear hP1 hD1 hFc hk_ hz_ hvm_ ht_
  generalize H1 = H at hP hS ⊢
  refine lv_i2l (v := r_1.toInt64) hx hb dL_shelfOf_7 rfl ?_
  refine va_last hx hb hK hP hD hS 86 3 rfl rfl (vp_in_nI (by decide) (by decide)) dL_shelfOf_8 (fun H locs hP hD hS => ?_)
  replace hP : va_P (dC, dI) vwCl (LW cI cV cW cL a A (K, b, n, T) M (vp_updL ou (nI 0).toNatClampNeg r_1.toInt64)) H := hP
  replace hD : va_D Af (LW cI cV cW cL a A (K, b, n, T) M (vp_updL ou (nI 0).toNatClampNeg r_1.toInt64)) := hD
  refine lv_goto (tgt := 15) hx hb dL_shelfOf_9 (by decide) ?_
  refine lv_iconst (v := (nI 0)) hx hb dL_shelfOf_15 (by decide) ?_
  refine W.widen (k := 1) (n := 6) (by decide) (by decide) ?_
  refine vx_ret ?_
  exact W.iret (v := (nI 0)) hx hb hr (fun t ht hW => ⟨⟨(nI 0), (A, (K, b, n, T), vp_updL ou (nI 0).toNatClampNeg r_1.toInt64), rfl, Or.inl ⟨rfl, r_1, hw_, rfl⟩, by rw [ht]; exact hP, hD⟩, hS.F ht⟩) hS.2.2 dL_shelfOf_16
theorem hdX5_catalog : yX5_catalog.cls = RX5 ∧ yX5_catalog.cls ≠ "java/lang/invoke/MethodHandle" ∧ yX5_catalog.cls ≠ "java/lang/invoke/VarHandle" ∧ (parseMethodDescriptor yX5_catalog.desc).map (fun d => d.parameters.length) = some 1 := by decide +kernel
set_option maxHeartbeats 4000000 in
set_option maxRecDepth 100000 in
theorem hL_catalog (l : Launch) (dC : Nat → ClassId) (dI : Nat → Nat → Nat) (cI cV cW cL : ClassId) (wa sw : Nat) (ad aK aV : Nat → Nat) (sa : Nat → Nat) (sz : Nat) (a : Nat → Nat) (A : Nat → Nat → Nat) (hlt : l.stackTraces = false) (K : Nat → VS) (b : CS) (n : Nat) (T : TS) (M : MS) (ou : Nat → Int64) (y : Int32) (hc : ((K 6).1) ≤ 16) : Met l yL_catalog wsL_catalog ({ frames := 8, cells := 1, slots := 6, locals := 142 }) (pL sa wa sw ad aK aV (dC, dI) (tyL cI cV cW cL) sz [.ref (a 0), .int y, .ref (a 14)] (LW cI cV cW cL a A (K, b, n, T) M ou)) (va_Qi (fun (r_ : Int32) (w9 : HU) => (r_ = nI 0 ∧ ∃ v9 : Int32, (v9 = ((K 6).2.2.2 5) (ix y) ∧ sHas y ((K 6).1) = true) ∧ w9 = (A, (K, b, n, T), vp_updL ou (nI 0).toNatClampNeg v9.toInt64)) ∨ (((sHas y ((K 6).1) = false ∧ r_ = nI 1)) ∧ w9 = (A, (K, b, n, T), ou))) (fun (w9 : HU) t => qL (dC, dI) (va_A (LW cI cV cW cL a A (K, b, n, T) M ou) sz) (LW cI cV cW cL a w9.1 w9.2.1 M w9.2.2) t) (va_A (LW cI cV cW cL a A (K, b, n, T) M ou) sz)) 1 6 (va_A (LW cI cV cW cL a A (K, b, n, T) M ou) sz) := by
  refine met_of_vx (vx_ofWH (cc := cL_catalog) (maxL := 4) (ret := (some .int)) (hh := [(0, 9, 12, 13)]) (by decide) rfl ?_)
  intro p e s m args below meth c s₁ B hml hv
  obtain ⟨rfl, hsz, hP, hK, hD0, hIm, hNw, hXm, hC3⟩ := hv
  have hx := B.exec
  have hb := B.bytes
  have hr := B.returns
  have hts := atoms_spec (ws := wsL_catalog) B.pre
  have hown : s.vm.findClass RL = some m.cls := findClass_of_methodNamed B.named
  have hlocks := B.notSynchronized
  have htab := vx_table (x := yL_catalog) B (hts _ List.mem_cons_self)
  subst hsz
  have hD := hD0.self (sz := s.heap.size)
  generalize hAe : va_A (LW cI cV cW cL a A (K, b, n, T) M ou) s.heap.size = Af at hD hIm hXm ⊢
  have hA : ∀ q : Nat, s.heap.size ≤ q → Af q := fun q h => by rw [← hAe]; exact Or.inr h
  have hS : va_S Af s.heap s.heap [] := va_S.rf
  refine w_gen hP hS (fun H locs hP hS => ?_)
  have hl := lv_entry ([.ref (a 0), .int y, .ref (a 14)]) (n := 4) (Nat.le_of_ble_eq_true rfl)
  rw [lg_entry_eq]
  generalize (lg_sl ([.ref (a 0), .int y, .ref (a 14)]) ++ List.replicate (4 - (lg_sl ([.ref (a 0), .int y, .ref (a 14)])).length) Slot.unset).toArray = ls at hl ⊢
  replace hl : lv_has ls 4 [(0, .ref (a 0)), (1, .int y), (2, .ref (a 14))] := hl
  refine lv_aload_n hx hb dL_catalog_0 rfl (lv_at hl 2 rfl) ?_
  refine lv_iconst (v := (nI 0)) hx hb dL_catalog_1 (by decide) ?_
  refine lv_aload_n hx hb dL_catalog_2 rfl (lv_at hl 0 rfl) ?_
  refine lv_iload_n hx hb dL_catalog_3 rfl (lv_at hl 1 rfl) ?_
  have hFc := freeW hD hS hA
  refine vx_calli (vx_runV (As := [.int y]) (rest := [.int (nI 0), .ref (a 14)]) ⟨hx, hb, hml, hown, hts⟩ (aX5_catalog l dC dI cI cV cW cL wa sw ad aK aV sa H.size a A hlt K b n T M ou y hc) (cwV 1 hts gL_catalog_X5_catalog rfl rfl rfl hdX5_catalog ⟨Nat.le_of_ble_eq_true rfl, Nat.le_of_ble_eq_true rfl⟩) (pL_V (A := Af) hK (imW hIm hS hFc) hNw (hXm.at hS hFc) hC3 hP hD 0 3 rfl rfl rfl) rfl rfl hl.1 rfl (lv_room (Nat.le_of_ble_eq_true rfl)) dL_catalog_4 ⟨Nat.le_of_ble_eq_true rfl, Nat.le_of_ble_eq_true rfl⟩) hS (fun q _ h => hFc q h) hFc (fun q _ h => hFc q h) (fun E9 ce9 q9 _ t9_ H1 locs ht_ hvm_ _ hbx_ hz_ hk_ hS hce_ hcv_ hcl_ => ?_) (fun r_1 u_ t_ H1 locs ht_ hvm_ hw_ hB_ hz_ hk_ hS => ?_)
  · obtain ⟨hxc, hP1, hD1⟩ := hbx_
    rw [ht_] at hP1
    have hP := hP1
    have hD := hD1.weaken (fun _ q _ h => hFc q.1 h)
    obtain ⟨rfl, hc9⟩ := hxc
    refine vx_catch (own := RL) (name := eI) hown [] ⟨0, 9, 12, 13⟩ [] (by rw [htab]; rfl) (fun z hz => absurd hz List.not_mem_nil) (by decide) (by decide) (hts (.classLink RL 13 eI) (by decide +kernel)) (hXm.1.use _ (by decide +kernel)) hce_ hcv_ hcl_ ?_
    refine lv_astore_n (lv' := [(3, .ref q9), (0, .ref (a 0)), (1, .int y), (2, .ref (a 14))]) hx hb dL_catalog_12 rfl hl (by decide) rfl (fun ls hl => ?_)
    refine lv_iconst (v := (nI 1)) hx hb dL_catalog_13 (by decide) ?_
    refine W.widen (k := 1) (n := 6) (by decide) (by decide) ?_
    refine vx_ret ?_
    exact W.iret (v := (nI 1)) hx hb hr (fun t ht hW => ⟨⟨(nI 1), (A, (K, b, n, T), ou), rfl, Or.inr ⟨⟨hc9, rfl⟩, rfl⟩, by rw [ht]; exact hP, hD⟩, hS.F ht⟩) hS.2.2 dL_catalog_14
  obtain ⟨hP1, hD1⟩ := hB_
  rw [ht_] at hP1
  have hP := hP1
  have hD := hD1.weaken (fun _ q _ h => hFc q.1 h)
  clear hP1 hD1 hFc hk_ hz_ hvm_ ht_
  generalize H1 = H at hP hS ⊢
  refine lv_i2l (v := r_1.toInt64) hx hb dL_catalog_7 rfl ?_
  refine va_last hx hb hK hP hD hS 86 3 rfl rfl (vp_in_nI (by decide) (by decide)) dL_catalog_8 (fun H locs hP hD hS => ?_)
  replace hP : va_P (dC, dI) vwCl (LW cI cV cW cL a A (K, b, n, T) M (vp_updL ou (nI 0).toNatClampNeg r_1.toInt64)) H := hP
  replace hD : va_D Af (LW cI cV cW cL a A (K, b, n, T) M (vp_updL ou (nI 0).toNatClampNeg r_1.toInt64)) := hD
  refine lv_goto (tgt := 15) hx hb dL_catalog_9 (by decide) ?_
  refine lv_iconst (v := (nI 0)) hx hb dL_catalog_15 (by decide) ?_
  refine W.widen (k := 1) (n := 6) (by decide) (by decide) ?_
  refine vx_ret ?_
  exact W.iret (v := (nI 0)) hx hb hr (fun t ht hW => ⟨⟨(nI 0), (A, (K, b, n, T), vp_updL ou (nI 0).toNatClampNeg r_1.toInt64), rfl, Or.inl ⟨rfl, r_1, hw_, rfl⟩, by rw [ht]; exact hP, hD⟩, hS.F ht⟩) hS.2.2 dL_catalog_16
theorem hdX5_weight : yX5_weight.cls = RX5 ∧ yX5_weight.cls ≠ "java/lang/invoke/MethodHandle" ∧ yX5_weight.cls ≠ "java/lang/invoke/VarHandle" ∧ (parseMethodDescriptor yX5_weight.desc).map (fun d => d.parameters.length) = some 1 := by decide +kernel
set_option maxHeartbeats 4000000 in
set_option maxRecDepth 100000 in
theorem hL_weight (l : Launch) (dC : Nat → ClassId) (dI : Nat → Nat → Nat) (cI cV cW cL : ClassId) (wa sw : Nat) (ad aK aV : Nat → Nat) (sa : Nat → Nat) (sz : Nat) (a : Nat → Nat) (A : Nat → Nat → Nat) (hlt : l.stackTraces = false) (K : Nat → VS) (b : CS) (n : Nat) (T : TS) (M : MS) (ou : Nat → Int64) (y : Int32) (hc : ((K 6).1) ≤ 16) : Met l yL_weight wsL_weight ({ frames := 8, cells := 1, slots := 6, locals := 142 }) (pL sa wa sw ad aK aV (dC, dI) (tyL cI cV cW cL) sz [.ref (a 0), .int y, .ref (a 14)] (LW cI cV cW cL a A (K, b, n, T) M ou)) (va_Qi (fun (r_ : Int32) (w9 : HU) => (r_ = nI 0 ∧ ∃ v9 : Int32, (v9 = sHf ((K 6).2.2.2 6) ((K 6).2.2.2 7) (ix y) ∧ sHas y ((K 6).1) = true) ∧ w9 = (A, (K, b, n, T), vp_updL ou (nI 0).toNatClampNeg v9.toInt64)) ∨ (((sHas y ((K 6).1) = false ∧ r_ = nI 1)) ∧ w9 = (A, (K, b, n, T), ou))) (fun (w9 : HU) t => qL (dC, dI) (va_A (LW cI cV cW cL a A (K, b, n, T) M ou) sz) (LW cI cV cW cL a w9.1 w9.2.1 M w9.2.2) t) (va_A (LW cI cV cW cL a A (K, b, n, T) M ou) sz)) 1 6 (va_A (LW cI cV cW cL a A (K, b, n, T) M ou) sz) := by
  refine met_of_vx (vx_ofWH (cc := cL_weight) (maxL := 4) (ret := (some .int)) (hh := [(0, 9, 12, 13)]) (by decide) rfl ?_)
  intro p e s m args below meth c s₁ B hml hv
  obtain ⟨rfl, hsz, hP, hK, hD0, hIm, hNw, hXm, hC3⟩ := hv
  have hx := B.exec
  have hb := B.bytes
  have hr := B.returns
  have hts := atoms_spec (ws := wsL_weight) B.pre
  have hown : s.vm.findClass RL = some m.cls := findClass_of_methodNamed B.named
  have hlocks := B.notSynchronized
  have htab := vx_table (x := yL_weight) B (hts _ List.mem_cons_self)
  subst hsz
  have hD := hD0.self (sz := s.heap.size)
  generalize hAe : va_A (LW cI cV cW cL a A (K, b, n, T) M ou) s.heap.size = Af at hD hIm hXm ⊢
  have hA : ∀ q : Nat, s.heap.size ≤ q → Af q := fun q h => by rw [← hAe]; exact Or.inr h
  have hS : va_S Af s.heap s.heap [] := va_S.rf
  refine w_gen hP hS (fun H locs hP hS => ?_)
  have hl := lv_entry ([.ref (a 0), .int y, .ref (a 14)]) (n := 4) (Nat.le_of_ble_eq_true rfl)
  rw [lg_entry_eq]
  generalize (lg_sl ([.ref (a 0), .int y, .ref (a 14)]) ++ List.replicate (4 - (lg_sl ([.ref (a 0), .int y, .ref (a 14)])).length) Slot.unset).toArray = ls at hl ⊢
  replace hl : lv_has ls 4 [(0, .ref (a 0)), (1, .int y), (2, .ref (a 14))] := hl
  refine lv_aload_n hx hb dL_weight_0 rfl (lv_at hl 2 rfl) ?_
  refine lv_iconst (v := (nI 0)) hx hb dL_weight_1 (by decide) ?_
  refine lv_aload_n hx hb dL_weight_2 rfl (lv_at hl 0 rfl) ?_
  refine lv_iload_n hx hb dL_weight_3 rfl (lv_at hl 1 rfl) ?_
  have hFc := freeW hD hS hA
  refine vx_calli (vx_runV (As := [.int y]) (rest := [.int (nI 0), .ref (a 14)]) ⟨hx, hb, hml, hown, hts⟩ (aX5_weight l dC dI cI cV cW cL wa sw ad aK aV sa H.size a A hlt K b n T M ou y hc) (cwV 1 hts gL_weight_X5_weight rfl rfl rfl hdX5_weight ⟨Nat.le_of_ble_eq_true rfl, Nat.le_of_ble_eq_true rfl⟩) (pL_V (A := Af) hK (imW hIm hS hFc) hNw (hXm.at hS hFc) hC3 hP hD 0 3 rfl rfl rfl) rfl rfl hl.1 rfl (lv_room (Nat.le_of_ble_eq_true rfl)) dL_weight_4 ⟨Nat.le_of_ble_eq_true rfl, Nat.le_of_ble_eq_true rfl⟩) hS (fun q _ h => hFc q h) hFc (fun q _ h => hFc q h) (fun E9 ce9 q9 _ t9_ H1 locs ht_ hvm_ _ hbx_ hz_ hk_ hS hce_ hcv_ hcl_ => ?_) (fun r_1 u_ t_ H1 locs ht_ hvm_ hw_ hB_ hz_ hk_ hS => ?_)
  · obtain ⟨hxc, hP1, hD1⟩ := hbx_
    rw [ht_] at hP1
    have hP := hP1
    have hD := hD1.weaken (fun _ q _ h => hFc q.1 h)
    obtain ⟨rfl, hc9⟩ := hxc
    refine vx_catch (own := RL) (name := eI) hown [] ⟨0, 9, 12, 13⟩ [] (by rw [htab]; rfl) (fun z hz => absurd hz List.not_mem_nil) (by decide) (by decide) (hts (.classLink RL 13 eI) (by decide +kernel)) (hXm.1.use _ (by decide +kernel)) hce_ hcv_ hcl_ ?_
    refine lv_astore_n (lv' := [(3, .ref q9), (0, .ref (a 0)), (1, .int y), (2, .ref (a 14))]) hx hb dL_weight_12 rfl hl (by decide) rfl (fun ls hl => ?_)
    refine lv_iconst (v := (nI 1)) hx hb dL_weight_13 (by decide) ?_
    refine W.widen (k := 1) (n := 6) (by decide) (by decide) ?_
    refine vx_ret ?_
    exact W.iret (v := (nI 1)) hx hb hr (fun t ht hW => ⟨⟨(nI 1), (A, (K, b, n, T), ou), rfl, Or.inr ⟨⟨hc9, rfl⟩, rfl⟩, by rw [ht]; exact hP, hD⟩, hS.F ht⟩) hS.2.2 dL_weight_14
  obtain ⟨hP1, hD1⟩ := hB_
  rw [ht_] at hP1
  have hP := hP1
  have hD := hD1.weaken (fun _ q _ h => hFc q.1 h)
  clear hP1 hD1 hFc hk_ hz_ hvm_ ht_
  generalize H1 = H at hP hS ⊢
  refine lv_i2l (v := r_1.toInt64) hx hb dL_weight_7 rfl ?_
  refine va_last hx hb hK hP hD hS 86 3 rfl rfl (vp_in_nI (by decide) (by decide)) dL_weight_8 (fun H locs hP hD hS => ?_)
  replace hP : va_P (dC, dI) vwCl (LW cI cV cW cL a A (K, b, n, T) M (vp_updL ou (nI 0).toNatClampNeg r_1.toInt64)) H := hP
  replace hD : va_D Af (LW cI cV cW cL a A (K, b, n, T) M (vp_updL ou (nI 0).toNatClampNeg r_1.toInt64)) := hD
  refine lv_goto (tgt := 15) hx hb dL_weight_9 (by decide) ?_
  refine lv_iconst (v := (nI 0)) hx hb dL_weight_15 (by decide) ?_
  refine W.widen (k := 1) (n := 6) (by decide) (by decide) ?_
  refine vx_ret ?_
  exact W.iret (v := (nI 0)) hx hb hr (fun t ht hW => ⟨⟨(nI 0), (A, (K, b, n, T), vp_updL ou (nI 0).toNatClampNeg r_1.toInt64), rfl, Or.inl ⟨rfl, r_1, hw_, rfl⟩, by rw [ht]; exact hP, hD⟩, hS.F ht⟩) hS.2.2 dL_weight_16
theorem hdX5_free : yX5_free.cls = RX5 ∧ yX5_free.cls ≠ "java/lang/invoke/MethodHandle" ∧ yX5_free.cls ≠ "java/lang/invoke/VarHandle" ∧ (parseMethodDescriptor yX5_free.desc).map (fun d => d.parameters.length) = some 1 := by decide +kernel
set_option maxHeartbeats 4000000 in
set_option maxRecDepth 100000 in
theorem hL_free (l : Launch) (dC : Nat → ClassId) (dI : Nat → Nat → Nat) (cI cV cW cL : ClassId) (wa sw : Nat) (ad aK aV : Nat → Nat) (sa : Nat → Nat) (sz : Nat) (a : Nat → Nat) (A : Nat → Nat → Nat) (hlt : l.stackTraces = false) (K : Nat → VS) (b : CS) (n : Nat) (T : TS) (M : MS) (ou : Nat → Int64) (y : Int32)  : Met l yL_free wsL_free ({ frames := 8, cells := 1, slots := 6, locals := 141 }) (pL sa wa sw ad aK aV (dC, dI) (tyL cI cV cW cL) sz [.ref (a 0), .int y, .ref (a 14)] (LW cI cV cW cL a A (K, b, n, T) M ou)) (va_Qi (fun (r_ : Int32) (w9 : HU) => (r_ = nI 0 ∧ ∃ v9 : Int32, (v9 = ((K 6).2.2.2 0) (ix y) - ((K 6).2.2.2 2) (ix y) ∧ sIn y 0 5 = true) ∧ w9 = (A, (K, b, n, T), vp_updL ou (nI 0).toNatClampNeg v9.toInt64)) ∨ (((sIn y 0 5 = false ∧ r_ = nI 1)) ∧ w9 = (A, (K, b, n, T), ou))) (fun (w9 : HU) t => qL (dC, dI) (va_A (LW cI cV cW cL a A (K, b, n, T) M ou) sz) (LW cI cV cW cL a w9.1 w9.2.1 M w9.2.2) t) (va_A (LW cI cV cW cL a A (K, b, n, T) M ou) sz)) 1 6 (va_A (LW cI cV cW cL a A (K, b, n, T) M ou) sz) := by
  refine met_of_vx (vx_ofWH (cc := cL_free) (maxL := 4) (ret := (some .int)) (hh := [(0, 9, 12, 13)]) (by decide) rfl ?_)
  intro p e s m args below meth c s₁ B hml hv
  obtain ⟨rfl, hsz, hP, hK, hD0, hIm, hNw, hXm, hC3⟩ := hv
  have hx := B.exec
  have hb := B.bytes
  have hr := B.returns
  have hts := atoms_spec (ws := wsL_free) B.pre
  have hown : s.vm.findClass RL = some m.cls := findClass_of_methodNamed B.named
  have hlocks := B.notSynchronized
  have htab := vx_table (x := yL_free) B (hts _ List.mem_cons_self)
  subst hsz
  have hD := hD0.self (sz := s.heap.size)
  generalize hAe : va_A (LW cI cV cW cL a A (K, b, n, T) M ou) s.heap.size = Af at hD hIm hXm ⊢
  have hA : ∀ q : Nat, s.heap.size ≤ q → Af q := fun q h => by rw [← hAe]; exact Or.inr h
  have hS : va_S Af s.heap s.heap [] := va_S.rf
  refine w_gen hP hS (fun H locs hP hS => ?_)
  have hl := lv_entry ([.ref (a 0), .int y, .ref (a 14)]) (n := 4) (Nat.le_of_ble_eq_true rfl)
  rw [lg_entry_eq]
  generalize (lg_sl ([.ref (a 0), .int y, .ref (a 14)]) ++ List.replicate (4 - (lg_sl ([.ref (a 0), .int y, .ref (a 14)])).length) Slot.unset).toArray = ls at hl ⊢
  replace hl : lv_has ls 4 [(0, .ref (a 0)), (1, .int y), (2, .ref (a 14))] := hl
  refine lv_aload_n hx hb dL_free_0 rfl (lv_at hl 2 rfl) ?_
  refine lv_iconst (v := (nI 0)) hx hb dL_free_1 (by decide) ?_
  refine lv_aload_n hx hb dL_free_2 rfl (lv_at hl 0 rfl) ?_
  refine lv_iload_n hx hb dL_free_3 rfl (lv_at hl 1 rfl) ?_
  have hFc := freeW hD hS hA
  refine vx_calli (vx_runV (As := [.int y]) (rest := [.int (nI 0), .ref (a 14)]) ⟨hx, hb, hml, hown, hts⟩ (aX5_free l dC dI cI cV cW cL wa sw ad aK aV sa H.size a A hlt K b n T M ou y ) (cwV 1 hts gL_free_X5_free rfl rfl rfl hdX5_free ⟨Nat.le_of_ble_eq_true rfl, Nat.le_of_ble_eq_true rfl⟩) (pL_V (A := Af) hK (imW hIm hS hFc) hNw (hXm.at hS hFc) hC3 hP hD 0 3 rfl rfl rfl) rfl rfl hl.1 rfl (lv_room (Nat.le_of_ble_eq_true rfl)) dL_free_4 ⟨Nat.le_of_ble_eq_true rfl, Nat.le_of_ble_eq_true rfl⟩) hS (fun q _ h => hFc q h) hFc (fun q _ h => hFc q h) (fun E9 ce9 q9 _ t9_ H1 locs ht_ hvm_ _ hbx_ hz_ hk_ hS hce_ hcv_ hcl_ => ?_) (fun r_1 u_ t_ H1 locs ht_ hvm_ hw_ hB_ hz_ hk_ hS => ?_)
  · obtain ⟨hxc, hP1, hD1⟩ := hbx_
    rw [ht_] at hP1
    have hP := hP1
    have hD := hD1.weaken (fun _ q _ h => hFc q.1 h)
    obtain ⟨rfl, hc9⟩ := hxc
    refine vx_catch (own := RL) (name := eI) hown [] ⟨0, 9, 12, 13⟩ [] (by rw [htab]; rfl) (fun z hz => absurd hz List.not_mem_nil) (by decide) (by decide) (hts (.classLink RL 13 eI) (by decide +kernel)) (hXm.1.use _ (by decide +kernel)) hce_ hcv_ hcl_ ?_
    refine lv_astore_n (lv' := [(3, .ref q9), (0, .ref (a 0)), (1, .int y), (2, .ref (a 14))]) hx hb dL_free_12 rfl hl (by decide) rfl (fun ls hl => ?_)
    refine lv_iconst (v := (nI 1)) hx hb dL_free_13 (by decide) ?_
    refine W.widen (k := 1) (n := 6) (by decide) (by decide) ?_
    refine vx_ret ?_
    exact W.iret (v := (nI 1)) hx hb hr (fun t ht hW => ⟨⟨(nI 1), (A, (K, b, n, T), ou), rfl, Or.inr ⟨⟨hc9, rfl⟩, rfl⟩, by rw [ht]; exact hP, hD⟩, hS.F ht⟩) hS.2.2 dL_free_14
  obtain ⟨hP1, hD1⟩ := hB_
  rw [ht_] at hP1
  have hP := hP1
  have hD := hD1.weaken (fun _ q _ h => hFc q.1 h)
  clear hP1 hD1 hFc hk_ hz_ hvm_ ht_
  generalize H1 = H at hP hS ⊢
  refine lv_i2l (v := r_1.toInt64) hx hb dL_free_7 rfl ?_
  refine va_last hx hb hK hP hD hS 86 3 rfl rfl (vp_in_nI (by decide) (by decide)) dL_free_8 (fun H locs hP hD hS => ?_)
  replace hP : va_P (dC, dI) vwCl (LW cI cV cW cL a A (K, b, n, T) M (vp_updL ou (nI 0).toNatClampNeg r_1.toInt64)) H := hP
  replace hD : va_D Af (LW cI cV cW cL a A (K, b, n, T) M (vp_updL ou (nI 0).toNatClampNeg r_1.toInt64)) := hD
  refine lv_goto (tgt := 15) hx hb dL_free_9 (by decide) ?_
  refine lv_iconst (v := (nI 0)) hx hb dL_free_15 (by decide) ?_
  refine W.widen (k := 1) (n := 6) (by decide) (by decide) ?_
  refine vx_ret ?_
  exact W.iret (v := (nI 0)) hx hb hr (fun t ht hW => ⟨⟨(nI 0), (A, (K, b, n, T), vp_updL ou (nI 0).toNatClampNeg r_1.toInt64), rfl, Or.inl ⟨rfl, r_1, hw_, rfl⟩, by rw [ht]; exact hP, hD⟩, hS.F ht⟩) hS.2.2 dL_free_16
theorem hdX5_reach : yX5_reach.cls = RX5 ∧ yX5_reach.cls ≠ "java/lang/invoke/MethodHandle" ∧ yX5_reach.cls ≠ "java/lang/invoke/VarHandle" ∧ (parseMethodDescriptor yX5_reach.desc).map (fun d => d.parameters.length) = some 1 := by decide +kernel
set_option maxHeartbeats 4000000 in
set_option maxRecDepth 100000 in
theorem hL_reach (l : Launch) (dC : Nat → ClassId) (dI : Nat → Nat → Nat) (cI cV cW cL : ClassId) (wa sw : Nat) (ad aK aV : Nat → Nat) (sa : Nat → Nat) (sz : Nat) (a : Nat → Nat) (A : Nat → Nat → Nat) (hlt : l.stackTraces = false) (K : Nat → VS) (b : CS) (n : Nat) (T : TS) (M : MS) (ou : Nat → Int64) (y : Int32)  : Met l yL_reach wsL_reach ({ frames := 8, cells := 1, slots := 6, locals := 141 }) (pL sa wa sw ad aK aV (dC, dI) (tyL cI cV cW cL) sz [.ref (a 0), .int y, .ref (a 14)] (LW cI cV cW cL a A (K, b, n, T) M ou)) (va_Qi (fun (r_ : Int32) (w9 : HU) => (r_ = nI 0 ∧ ∃ v9 : Int32, (v9 = ((K 6).2.2.2 1) (ix y) ∧ sIn y 0 5 = true) ∧ w9 = (A, (K, b, n, T), vp_updL ou (nI 0).toNatClampNeg v9.toInt64)) ∨ (((sIn y 0 5 = false ∧ r_ = nI 1)) ∧ w9 = (A, (K, b, n, T), ou))) (fun (w9 : HU) t => qL (dC, dI) (va_A (LW cI cV cW cL a A (K, b, n, T) M ou) sz) (LW cI cV cW cL a w9.1 w9.2.1 M w9.2.2) t) (va_A (LW cI cV cW cL a A (K, b, n, T) M ou) sz)) 1 6 (va_A (LW cI cV cW cL a A (K, b, n, T) M ou) sz) := by
  refine met_of_vx (vx_ofWH (cc := cL_reach) (maxL := 4) (ret := (some .int)) (hh := [(0, 9, 12, 13)]) (by decide) rfl ?_)
  intro p e s m args below meth c s₁ B hml hv
  obtain ⟨rfl, hsz, hP, hK, hD0, hIm, hNw, hXm, hC3⟩ := hv
  have hx := B.exec
  have hb := B.bytes
  have hr := B.returns
  have hts := atoms_spec (ws := wsL_reach) B.pre
  have hown : s.vm.findClass RL = some m.cls := findClass_of_methodNamed B.named
  have hlocks := B.notSynchronized
  have htab := vx_table (x := yL_reach) B (hts _ List.mem_cons_self)
  subst hsz
  have hD := hD0.self (sz := s.heap.size)
  generalize hAe : va_A (LW cI cV cW cL a A (K, b, n, T) M ou) s.heap.size = Af at hD hIm hXm ⊢
  have hA : ∀ q : Nat, s.heap.size ≤ q → Af q := fun q h => by rw [← hAe]; exact Or.inr h
  have hS : va_S Af s.heap s.heap [] := va_S.rf
  refine w_gen hP hS (fun H locs hP hS => ?_)
  have hl := lv_entry ([.ref (a 0), .int y, .ref (a 14)]) (n := 4) (Nat.le_of_ble_eq_true rfl)
  rw [lg_entry_eq]
  generalize (lg_sl ([.ref (a 0), .int y, .ref (a 14)]) ++ List.replicate (4 - (lg_sl ([.ref (a 0), .int y, .ref (a 14)])).length) Slot.unset).toArray = ls at hl ⊢
  replace hl : lv_has ls 4 [(0, .ref (a 0)), (1, .int y), (2, .ref (a 14))] := hl
  refine lv_aload_n hx hb dL_reach_0 rfl (lv_at hl 2 rfl) ?_
  refine lv_iconst (v := (nI 0)) hx hb dL_reach_1 (by decide) ?_
  refine lv_aload_n hx hb dL_reach_2 rfl (lv_at hl 0 rfl) ?_
  refine lv_iload_n hx hb dL_reach_3 rfl (lv_at hl 1 rfl) ?_
  have hFc := freeW hD hS hA
  refine vx_calli (vx_runV (As := [.int y]) (rest := [.int (nI 0), .ref (a 14)]) ⟨hx, hb, hml, hown, hts⟩ (aX5_reach l dC dI cI cV cW cL wa sw ad aK aV sa H.size a A hlt K b n T M ou y ) (cwV 1 hts gL_reach_X5_reach rfl rfl rfl hdX5_reach ⟨Nat.le_of_ble_eq_true rfl, Nat.le_of_ble_eq_true rfl⟩) (pL_V (A := Af) hK (imW hIm hS hFc) hNw (hXm.at hS hFc) hC3 hP hD 0 3 rfl rfl rfl) rfl rfl hl.1 rfl (lv_room (Nat.le_of_ble_eq_true rfl)) dL_reach_4 ⟨Nat.le_of_ble_eq_true rfl, Nat.le_of_ble_eq_true rfl⟩) hS (fun q _ h => hFc q h) hFc (fun q _ h => hFc q h) (fun E9 ce9 q9 _ t9_ H1 locs ht_ hvm_ _ hbx_ hz_ hk_ hS hce_ hcv_ hcl_ => ?_) (fun r_1 u_ t_ H1 locs ht_ hvm_ hw_ hB_ hz_ hk_ hS => ?_)
  · obtain ⟨hxc, hP1, hD1⟩ := hbx_
    rw [ht_] at hP1
    have hP := hP1
    have hD := hD1.weaken (fun _ q _ h => hFc q.1 h)
    obtain ⟨rfl, hc9⟩ := hxc
    refine vx_catch (own := RL) (name := eI) hown [] ⟨0, 9, 12, 13⟩ [] (by rw [htab]; rfl) (fun z hz => absurd hz List.not_mem_nil) (by decide) (by decide) (hts (.classLink RL 13 eI) (by decide +kernel)) (hXm.1.use _ (by decide +kernel)) hce_ hcv_ hcl_ ?_
    refine lv_astore_n (lv' := [(3, .ref q9), (0, .ref (a 0)), (1, .int y), (2, .ref (a 14))]) hx hb dL_reach_12 rfl hl (by decide) rfl (fun ls hl => ?_)
    refine lv_iconst (v := (nI 1)) hx hb dL_reach_13 (by decide) ?_
    refine W.widen (k := 1) (n := 6) (by decide) (by decide) ?_
    refine vx_ret ?_
    exact W.iret (v := (nI 1)) hx hb hr (fun t ht hW => ⟨⟨(nI 1), (A, (K, b, n, T), ou), rfl, Or.inr ⟨⟨hc9, rfl⟩, rfl⟩, by rw [ht]; exact hP, hD⟩, hS.F ht⟩) hS.2.2 dL_reach_14
  obtain ⟨hP1, hD1⟩ := hB_
  rw [ht_] at hP1
  have hP := hP1
  have hD := hD1.weaken (fun _ q _ h => hFc q.1 h)
  clear hP1 hD1 hFc hk_ hz_ hvm_ ht_
  generalize H1 = H at hP hS ⊢
  refine lv_i2l (v := r_1.toInt64) hx hb dL_reach_7 rfl ?_
  refine va_last hx hb hK hP hD hS 86 3 rfl rfl (vp_in_nI (by decide) (by decide)) dL_reach_8 (fun H locs hP hD hS => ?_)
  replace hP : va_P (dC, dI) vwCl (LW cI cV cW cL a A (K, b, n, T) M (vp_updL ou (nI 0).toNatClampNeg r_1.toInt64)) H := hP
  replace hD : va_D Af (LW cI cV cW cL a A (K, b, n, T) M (vp_updL ou (nI 0).toNatClampNeg r_1.toInt64)) := hD
  refine lv_goto (tgt := 15) hx hb dL_reach_9 (by decide) ?_
  refine lv_iconst (v := (nI 0)) hx hb dL_reach_15 (by decide) ?_
  refine W.widen (k := 1) (n := 6) (by decide) (by decide) ?_
  refine vx_ret ?_
  exact W.iret (v := (nI 0)) hx hb hr (fun t ht hW => ⟨⟨(nI 0), (A, (K, b, n, T), vp_updL ou (nI 0).toNatClampNeg r_1.toInt64), rfl, Or.inl ⟨rfl, r_1, hw_, rfl⟩, by rw [ht]; exact hP, hD⟩, hS.F ht⟩) hS.2.2 dL_reach_16
theorem hdX5_call : yX5_call.cls = RX5 ∧ yX5_call.cls ≠ "java/lang/invoke/MethodHandle" ∧ yX5_call.cls ≠ "java/lang/invoke/VarHandle" ∧ (parseMethodDescriptor yX5_call.desc).map (fun d => d.parameters.length) = some 1 := by decide +kernel
set_option maxHeartbeats 4000000 in
set_option maxRecDepth 100000 in
theorem hL_call (l : Launch) (dC : Nat → ClassId) (dI : Nat → Nat → Nat) (cI cV cW cL : ClassId) (wa sw : Nat) (ad aK aV : Nat → Nat) (sa : Nat → Nat) (sz : Nat) (a : Nat → Nat) (A : Nat → Nat → Nat) (hlt : l.stackTraces = false) (K : Nat → VS) (b : CS) (n : Nat) (T : TS) (M : MS) (ou : Nat → Int64) (y : Int32) (hV : VO ((K 6).2.2.2 4) ((K 6).2.2.2 5) ((K 6).1)) (hn6 : n ≤ 6) : Met l yL_call wsL_call ({ frames := 8, cells := 1, slots := 6, locals := 142 }) (pL sa wa sw ad aK aV (dC, dI) (tyL cI cV cW cL) sz [.ref (a 0), .int y, .ref (a 14)] (LW cI cV cW cL a A (K, b, n, T) M ou)) (va_Qi (fun (r_ : Int32) (w9 : HU) => (r_ = nI 0 ∧ ∃ v9 : Int32, (v9 = cWalk ((K 6).2.2.2 1) ((K 6).2.2.2 4) ((K 6).2.2.2 5) (ix y) ∧ sHas y ((K 6).1) = true) ∧ w9 = ((svA n A), (setK (svK n K) 6 (((K 6).1), (((K 6).2.1) + cWalk ((K 6).2.2.2 1) ((K 6).2.2.2 4) ((K 6).2.2.2 5) (ix y)), ((K 6).2.2.1), mk8 ((K 6).2.2.2 0) ((K 6).2.2.2 1) ((K 6).2.2.2 2) ((K 6).2.2.2 3) ((K 6).2.2.2 4) (upd ((K 6).2.2.2 5) (ix y) (((K 6).2.2.2 4) (ix y))) (upd ((K 6).2.2.2 6) (ix y) (((K 6).2.2.2 6) (ix y) + 1)) ((K 6).2.2.2 7)), b, svN n, T), vp_updL ou (nI 0).toNatClampNeg v9.toInt64)) ∨ (((sHas y ((K 6).1) = false ∧ r_ = nI 1)) ∧ w9 = (A, (K, b, n, T), ou))) (fun (w9 : HU) t => qL (dC, dI) (va_A (LW cI cV cW cL a A (K, b, n, T) M ou) sz) (LW cI cV cW cL a w9.1 w9.2.1 M w9.2.2) t) (va_A (LW cI cV cW cL a A (K, b, n, T) M ou) sz)) 1 6 (va_A (LW cI cV cW cL a A (K, b, n, T) M ou) sz) := by
  refine met_of_vx (vx_ofWH (cc := cL_call) (maxL := 4) (ret := (some .int)) (hh := [(0, 9, 12, 13)]) (by decide) rfl ?_)
  intro p e s m args below meth c s₁ B hml hv
  obtain ⟨rfl, hsz, hP, hK, hD0, hIm, hNw, hXm, hC3⟩ := hv
  have hx := B.exec
  have hb := B.bytes
  have hr := B.returns
  have hts := atoms_spec (ws := wsL_call) B.pre
  have hown : s.vm.findClass RL = some m.cls := findClass_of_methodNamed B.named
  have hlocks := B.notSynchronized
  have htab := vx_table (x := yL_call) B (hts _ List.mem_cons_self)
  subst hsz
  have hD := hD0.self (sz := s.heap.size)
  generalize hAe : va_A (LW cI cV cW cL a A (K, b, n, T) M ou) s.heap.size = Af at hD hIm hXm ⊢
  have hA : ∀ q : Nat, s.heap.size ≤ q → Af q := fun q h => by rw [← hAe]; exact Or.inr h
  have hS : va_S Af s.heap s.heap [] := va_S.rf
  refine w_gen hP hS (fun H locs hP hS => ?_)
  have hl := lv_entry ([.ref (a 0), .int y, .ref (a 14)]) (n := 4) (Nat.le_of_ble_eq_true rfl)
  rw [lg_entry_eq]
  generalize (lg_sl ([.ref (a 0), .int y, .ref (a 14)]) ++ List.replicate (4 - (lg_sl ([.ref (a 0), .int y, .ref (a 14)])).length) Slot.unset).toArray = ls at hl ⊢
  replace hl : lv_has ls 4 [(0, .ref (a 0)), (1, .int y), (2, .ref (a 14))] := hl
  refine lv_aload_n hx hb dL_call_0 rfl (lv_at hl 2 rfl) ?_
  refine lv_iconst (v := (nI 0)) hx hb dL_call_1 (by decide) ?_
  refine lv_aload_n hx hb dL_call_2 rfl (lv_at hl 0 rfl) ?_
  refine lv_iload_n hx hb dL_call_3 rfl (lv_at hl 1 rfl) ?_
  have hFc := freeW hD hS hA
  refine vx_calli (vx_runV (As := [.int y]) (rest := [.int (nI 0), .ref (a 14)]) ⟨hx, hb, hml, hown, hts⟩ (aX5_call l dC dI cI cV cW cL wa sw ad aK aV sa H.size a A hlt K b n T M ou y hV hn6) (cwV 1 hts gL_call_X5_call rfl rfl rfl hdX5_call ⟨Nat.le_of_ble_eq_true rfl, Nat.le_of_ble_eq_true rfl⟩) (pL_V (A := Af) hK (imW hIm hS hFc) hNw (hXm.at hS hFc) hC3 hP hD 0 3 rfl rfl rfl) rfl rfl hl.1 rfl (lv_room (Nat.le_of_ble_eq_true rfl)) dL_call_4 ⟨Nat.le_of_ble_eq_true rfl, Nat.le_of_ble_eq_true rfl⟩) hS (fun q _ h => hFc q h) hFc (fun q _ h => hFc q h) (fun E9 ce9 q9 _ t9_ H1 locs ht_ hvm_ _ hbx_ hz_ hk_ hS hce_ hcv_ hcl_ => ?_) (fun r_1 u_ t_ H1 locs ht_ hvm_ hw_ hB_ hz_ hk_ hS => ?_)
  · obtain ⟨hxc, hP1, hD1⟩ := hbx_
    rw [ht_] at hP1
    have hP := hP1
    have hD := hD1.weaken (fun _ q _ h => hFc q.1 h)
    obtain ⟨rfl, hc9⟩ := hxc
    refine vx_catch (own := RL) (name := eI) hown [] ⟨0, 9, 12, 13⟩ [] (by rw [htab]; rfl) (fun z hz => absurd hz List.not_mem_nil) (by decide) (by decide) (hts (.classLink RL 13 eI) (by decide +kernel)) (hXm.1.use _ (by decide +kernel)) hce_ hcv_ hcl_ ?_
    refine lv_astore_n (lv' := [(3, .ref q9), (0, .ref (a 0)), (1, .int y), (2, .ref (a 14))]) hx hb dL_call_12 rfl hl (by decide) rfl (fun ls hl => ?_)
    refine lv_iconst (v := (nI 1)) hx hb dL_call_13 (by decide) ?_
    refine W.widen (k := 1) (n := 6) (by decide) (by decide) ?_
    refine vx_ret ?_
    exact W.iret (v := (nI 1)) hx hb hr (fun t ht hW => ⟨⟨(nI 1), (A, (K, b, n, T), ou), rfl, Or.inr ⟨⟨hc9, rfl⟩, rfl⟩, by rw [ht]; exact hP, hD⟩, hS.F ht⟩) hS.2.2 dL_call_14
  obtain ⟨hP1, hD1⟩ := hB_
  rw [ht_] at hP1
  have hP := hP1
  have hD := hD1.weaken (fun _ q _ h => hFc q.1 h)
  clear hP1 hD1 hFc hk_ hz_ hvm_ ht_
  generalize H1 = H at hP hS ⊢
  refine lv_i2l (v := r_1.toInt64) hx hb dL_call_7 rfl ?_
  refine va_last hx hb hK hP hD hS 86 3 rfl rfl (vp_in_nI (by decide) (by decide)) dL_call_8 (fun H locs hP hD hS => ?_)
  replace hP : va_P (dC, dI) vwCl (LW cI cV cW cL a (svA n A) (setK (svK n K) 6 (((K 6).1), (((K 6).2.1) + cWalk ((K 6).2.2.2 1) ((K 6).2.2.2 4) ((K 6).2.2.2 5) (ix y)), ((K 6).2.2.1), mk8 ((K 6).2.2.2 0) ((K 6).2.2.2 1) ((K 6).2.2.2 2) ((K 6).2.2.2 3) ((K 6).2.2.2 4) (upd ((K 6).2.2.2 5) (ix y) (((K 6).2.2.2 4) (ix y))) (upd ((K 6).2.2.2 6) (ix y) (((K 6).2.2.2 6) (ix y) + 1)) ((K 6).2.2.2 7)), b, svN n, T) M (vp_updL ou (nI 0).toNatClampNeg r_1.toInt64)) H := hP
  replace hD : va_D Af (LW cI cV cW cL a (svA n A) (setK (svK n K) 6 (((K 6).1), (((K 6).2.1) + cWalk ((K 6).2.2.2 1) ((K 6).2.2.2 4) ((K 6).2.2.2 5) (ix y)), ((K 6).2.2.1), mk8 ((K 6).2.2.2 0) ((K 6).2.2.2 1) ((K 6).2.2.2 2) ((K 6).2.2.2 3) ((K 6).2.2.2 4) (upd ((K 6).2.2.2 5) (ix y) (((K 6).2.2.2 4) (ix y))) (upd ((K 6).2.2.2 6) (ix y) (((K 6).2.2.2 6) (ix y) + 1)) ((K 6).2.2.2 7)), b, svN n, T) M (vp_updL ou (nI 0).toNatClampNeg r_1.toInt64)) := hD
  refine lv_goto (tgt := 15) hx hb dL_call_9 (by decide) ?_
  refine lv_iconst (v := (nI 0)) hx hb dL_call_15 (by decide) ?_
  refine W.widen (k := 1) (n := 6) (by decide) (by decide) ?_
  refine vx_ret ?_
  exact W.iret (v := (nI 0)) hx hb hr (fun t ht hW => ⟨⟨(nI 0), ((svA n A), (setK (svK n K) 6 (((K 6).1), (((K 6).2.1) + cWalk ((K 6).2.2.2 1) ((K 6).2.2.2 4) ((K 6).2.2.2 5) (ix y)), ((K 6).2.2.1), mk8 ((K 6).2.2.2 0) ((K 6).2.2.2 1) ((K 6).2.2.2 2) ((K 6).2.2.2 3) ((K 6).2.2.2 4) (upd ((K 6).2.2.2 5) (ix y) (((K 6).2.2.2 4) (ix y))) (upd ((K 6).2.2.2 6) (ix y) (((K 6).2.2.2 6) (ix y) + 1)) ((K 6).2.2.2 7)), b, svN n, T), vp_updL ou (nI 0).toNatClampNeg r_1.toInt64), rfl, Or.inl ⟨rfl, r_1, hw_, rfl⟩, by rw [ht]; exact hP, hD⟩, hS.F ht⟩) hS.2.2 dL_call_16
theorem hdX5_misplace : yX5_misplace.cls = RX5 ∧ yX5_misplace.cls ≠ "java/lang/invoke/MethodHandle" ∧ yX5_misplace.cls ≠ "java/lang/invoke/VarHandle" ∧ (parseMethodDescriptor yX5_misplace.desc).map (fun d => d.parameters.length) = some 2 := by decide +kernel
set_option maxHeartbeats 4000000 in
set_option maxRecDepth 100000 in
theorem hL_misplace (l : Launch) (dC : Nat → ClassId) (dI : Nat → Nat → Nat) (cI cV cW cL : ClassId) (wa sw : Nat) (ad aK aV : Nat → Nat) (sa : Nat → Nat) (sz : Nat) (a : Nat → Nat) (A : Nat → Nat → Nat) (hlt : l.stackTraces = false) (K : Nat → VS) (b : CS) (n : Nat) (T : TS) (M : MS) (ou : Nat → Int64) (y : Int32) (z : Int32) (hV : VO ((K 6).2.2.2 4) ((K 6).2.2.2 5) ((K 6).1)) (hn6 : n ≤ 6) : Met l yL_misplace wsL_misplace ({ frames := 8, cells := 3, slots := 18, locals := 143 }) (pL sa wa sw ad aK aV (dC, dI) (tyL cI cV cW cL) sz [.ref (a 0), .int y, .int z, .ref (a 14)] (LW cI cV cW cL a A (K, b, n, T) M ou)) (va_Qi (fun (r_ : Int32) (w9 : HU) => (r_ = nI 0 ∧ ∃ v9 : Int32, (v9 = ((K 6).2.2.2 4) (ix y) ∧ cxMp ((K 6).2.2.2 4) ((K 6).2.2.2 0) ((K 6).2.2.2 2) ((K 6).2.2.2 3) ((K 6).1) y z = 0) ∧ w9 = ((svA n A), (setK (svK n K) 6 (((K 6).1), ((K 6).2.1), ((K 6).2.2.1), mk8 ((K 6).2.2.2 0) ((K 6).2.2.2 1) (fPn ((K 6).2.2.2 2) ((K 6).2.2.2 4) ((K 6).2.2.2 3) (ix y) (ix z)) ((K 6).2.2.2 3) (upd ((K 6).2.2.2 4) (ix y) (nI (ix z))) ((K 6).2.2.2 5) ((K 6).2.2.2 6) ((K 6).2.2.2 7)), b, svN n, T), vp_updL ou (nI 0).toNatClampNeg v9.toInt64)) ∨ (((cxMp ((K 6).2.2.2 4) ((K 6).2.2.2 0) ((K 6).2.2.2 2) ((K 6).2.2.2 3) ((K 6).1) y z = 1 ∧ r_ = nI 1) ∨ (cxMp ((K 6).2.2.2 4) ((K 6).2.2.2 0) ((K 6).2.2.2 2) ((K 6).2.2.2 3) ((K 6).1) y z = 2 ∧ r_ = nI 2)) ∧ w9 = (A, (K, b, n, T), ou))) (fun (w9 : HU) t => qL (dC, dI) (va_A (LW cI cV cW cL a A (K, b, n, T) M ou) sz) (LW cI cV cW cL a w9.1 w9.2.1 M w9.2.2) t) (va_A (LW cI cV cW cL a A (K, b, n, T) M ou) sz)) 3 18 (va_A (LW cI cV cW cL a A (K, b, n, T) M ou) sz) := by
  refine met_of_vx (vx_ofWH (cc := cL_misplace) (maxL := 5) (ret := (some .int)) (hh := [(0, 10, 13, 13), (0, 10, 17, 17)]) (by decide) rfl ?_)
  intro p e s m args below meth c s₁ B hml hv
  obtain ⟨rfl, hsz, hP, hK, hD0, hIm, hNw, hXm, hC3⟩ := hv
  have hx := B.exec
  have hb := B.bytes
  have hr := B.returns
  have hts := atoms_spec (ws := wsL_misplace) B.pre
  have hown : s.vm.findClass RL = some m.cls := findClass_of_methodNamed B.named
  have hlocks := B.notSynchronized
  have htab := vx_table (x := yL_misplace) B (hts _ List.mem_cons_self)
  subst hsz
  have hD := hD0.self (sz := s.heap.size)
  generalize hAe : va_A (LW cI cV cW cL a A (K, b, n, T) M ou) s.heap.size = Af at hD hIm hXm ⊢
  have hA : ∀ q : Nat, s.heap.size ≤ q → Af q := fun q h => by rw [← hAe]; exact Or.inr h
  have hS : va_S Af s.heap s.heap [] := va_S.rf
  refine w_gen hP hS (fun H locs hP hS => ?_)
  have hl := lv_entry ([.ref (a 0), .int y, .int z, .ref (a 14)]) (n := 5) (Nat.le_of_ble_eq_true rfl)
  rw [lg_entry_eq]
  generalize (lg_sl ([.ref (a 0), .int y, .int z, .ref (a 14)]) ++ List.replicate (5 - (lg_sl ([.ref (a 0), .int y, .int z, .ref (a 14)])).length) Slot.unset).toArray = ls at hl ⊢
  replace hl : lv_has ls 5 [(0, .ref (a 0)), (1, .int y), (2, .int z), (3, .ref (a 14))] := hl
  refine lv_aload_n hx hb dL_misplace_0 rfl (lv_at hl 3 rfl) ?_
  refine lv_iconst (v := (nI 0)) hx hb dL_misplace_1 (by decide) ?_
  refine lv_aload_n hx hb dL_misplace_2 rfl (lv_at hl 0 rfl) ?_
  refine lv_iload_n hx hb dL_misplace_3 rfl (lv_at hl 1 rfl) ?_
  refine lv_iload_n hx hb dL_misplace_4 rfl (lv_at hl 2 rfl) ?_
  have hFc := freeW hD hS hA
  refine vx_calli (vx_runV (As := [.int y, .int z]) (rest := [.int (nI 0), .ref (a 14)]) ⟨hx, hb, hml, hown, hts⟩ (aX5_misplace l dC dI cI cV cW cL wa sw ad aK aV sa H.size a A hlt K b n T M ou y z hV hn6) (cwV 2 hts gL_misplace_X5_misplace rfl rfl rfl hdX5_misplace ⟨Nat.le_of_ble_eq_true rfl, Nat.le_of_ble_eq_true rfl⟩) (pL_V (A := Af) hK (imW hIm hS hFc) hNw (hXm.at hS hFc) hC3 hP hD 0 3 rfl rfl rfl) rfl rfl hl.1 rfl (lv_room (Nat.le_of_ble_eq_true rfl)) dL_misplace_5 ⟨Nat.le_of_ble_eq_true rfl, Nat.le_of_ble_eq_true rfl⟩) hS (fun q _ h => hFc q h) hFc (fun q _ h => hFc q h) (fun E9 ce9 q9 _ t9_ H1 locs ht_ hvm_ _ hbx_ hz_ hk_ hS hce_ hcv_ hcl_ => ?_) (fun r_1 u_ t_ H1 locs ht_ hvm_ hw_ hB_ hz_ hk_ hS => ?_)
  · obtain ⟨hxc, hP1, hD1⟩ := hbx_
    rw [ht_] at hP1
    have hP := hP1
    have hD := hD1.weaken (fun _ q _ h => hFc q.1 h)
    rcases hxc with hxc | hxc
    · obtain ⟨rfl, hc9⟩ := hxc
      refine vx_catch (own := RL) (name := eI) hown [] ⟨0, 10, 13, 13⟩ [⟨0, 10, 17, 17⟩] (by rw [htab]; rfl) (fun z hz => absurd hz List.not_mem_nil) (by decide) (by decide) (hts (.classLink RL 13 eI) (by decide +kernel)) (hXm.1.use _ (by decide +kernel)) hce_ hcv_ hcl_ ?_
      refine lv_astore (lv' := [(4, .ref q9), (0, .ref (a 0)), (1, .int y), (2, .int z), (3, .ref (a 14))]) hx hb dL_misplace_13 hl (by decide) rfl (fun ls hl => ?_)
      refine lv_iconst (v := (nI 1)) hx hb dL_misplace_15 (by decide) ?_
      refine W.widen (k := 3) (n := 18) (by decide) (by decide) ?_
      refine vx_ret ?_
      exact W.iret (v := (nI 1)) hx hb hr (fun t ht hW => ⟨⟨(nI 1), (A, (K, b, n, T), ou), rfl, Or.inr ⟨(Or.inl ⟨hc9, rfl⟩), rfl⟩, by rw [ht]; exact hP, hD⟩, hS.F ht⟩) hS.2.2 dL_misplace_16
    · obtain ⟨rfl, hc9⟩ := hxc
      refine vx_catch (own := RL) (name := eS) hown [⟨0, 10, 13, 13⟩] ⟨0, 10, 17, 17⟩ [] (by rw [htab]; rfl) (fun z hz => by
        simp only [List.mem_cons, List.not_mem_nil, or_false] at hz
        rcases hz with rfl
        · exact Or.inr ⟨by decide, eI, hts (.classLink RL 13 eI) (by decide +kernel), hC3.2.1⟩) (by decide) (by decide) (hts (.classLink RL 17 eS) (by decide +kernel)) (hXm.1.use _ (by decide +kernel)) hce_ hcv_ hcl_ ?_
      refine lv_astore (lv' := [(4, .ref q9), (0, .ref (a 0)), (1, .int y), (2, .int z), (3, .ref (a 14))]) hx hb dL_misplace_17 hl (by decide) rfl (fun ls hl => ?_)
      refine lv_iconst (v := (nI 2)) hx hb dL_misplace_19 (by decide) ?_
      refine W.widen (k := 3) (n := 18) (by decide) (by decide) ?_
      refine vx_ret ?_
      exact W.iret (v := (nI 2)) hx hb hr (fun t ht hW => ⟨⟨(nI 2), (A, (K, b, n, T), ou), rfl, Or.inr ⟨(Or.inr ⟨hc9, rfl⟩), rfl⟩, by rw [ht]; exact hP, hD⟩, hS.F ht⟩) hS.2.2 dL_misplace_20
  obtain ⟨hP1, hD1⟩ := hB_
  rw [ht_] at hP1
  have hP := hP1
  have hD := hD1.weaken (fun _ q _ h => hFc q.1 h)
  clear hP1 hD1 hFc hk_ hz_ hvm_ ht_
  generalize H1 = H at hP hS ⊢
  refine lv_i2l (v := r_1.toInt64) hx hb dL_misplace_8 rfl ?_
  refine va_last hx hb hK hP hD hS 86 3 rfl rfl (vp_in_nI (by decide) (by decide)) dL_misplace_9 (fun H locs hP hD hS => ?_)
  replace hP : va_P (dC, dI) vwCl (LW cI cV cW cL a (svA n A) (setK (svK n K) 6 (((K 6).1), ((K 6).2.1), ((K 6).2.2.1), mk8 ((K 6).2.2.2 0) ((K 6).2.2.2 1) (fPn ((K 6).2.2.2 2) ((K 6).2.2.2 4) ((K 6).2.2.2 3) (ix y) (ix z)) ((K 6).2.2.2 3) (upd ((K 6).2.2.2 4) (ix y) (nI (ix z))) ((K 6).2.2.2 5) ((K 6).2.2.2 6) ((K 6).2.2.2 7)), b, svN n, T) M (vp_updL ou (nI 0).toNatClampNeg r_1.toInt64)) H := hP
  replace hD : va_D Af (LW cI cV cW cL a (svA n A) (setK (svK n K) 6 (((K 6).1), ((K 6).2.1), ((K 6).2.2.1), mk8 ((K 6).2.2.2 0) ((K 6).2.2.2 1) (fPn ((K 6).2.2.2 2) ((K 6).2.2.2 4) ((K 6).2.2.2 3) (ix y) (ix z)) ((K 6).2.2.2 3) (upd ((K 6).2.2.2 4) (ix y) (nI (ix z))) ((K 6).2.2.2 5) ((K 6).2.2.2 6) ((K 6).2.2.2 7)), b, svN n, T) M (vp_updL ou (nI 0).toNatClampNeg r_1.toInt64)) := hD
  refine lv_goto (tgt := 21) hx hb dL_misplace_10 (by decide) ?_
  refine lv_iconst (v := (nI 0)) hx hb dL_misplace_21 (by decide) ?_
  refine W.widen (k := 3) (n := 18) (by decide) (by decide) ?_
  refine vx_ret ?_
  exact W.iret (v := (nI 0)) hx hb hr (fun t ht hW => ⟨⟨(nI 0), ((svA n A), (setK (svK n K) 6 (((K 6).1), ((K 6).2.1), ((K 6).2.2.1), mk8 ((K 6).2.2.2 0) ((K 6).2.2.2 1) (fPn ((K 6).2.2.2 2) ((K 6).2.2.2 4) ((K 6).2.2.2 3) (ix y) (ix z)) ((K 6).2.2.2 3) (upd ((K 6).2.2.2 4) (ix y) (nI (ix z))) ((K 6).2.2.2 5) ((K 6).2.2.2 6) ((K 6).2.2.2 7)), b, svN n, T), vp_updL ou (nI 0).toNatClampNeg r_1.toInt64), rfl, Or.inl ⟨rfl, r_1, hw_, rfl⟩, by rw [ht]; exact hP, hD⟩, hS.F ht⟩) hS.2.2 dL_misplace_22
theorem hdX5_night : yX5_night.cls = RX5 ∧ yX5_night.cls ≠ "java/lang/invoke/MethodHandle" ∧ yX5_night.cls ≠ "java/lang/invoke/VarHandle" ∧ (parseMethodDescriptor yX5_night.desc).map (fun d => d.parameters.length) = some 1 := by decide +kernel
set_option maxHeartbeats 4000000 in
set_option maxRecDepth 100000 in
theorem hL_night (l : Launch) (dC : Nat → ClassId) (dI : Nat → Nat → Nat) (cI cV cW cL : ClassId) (wa sw : Nat) (ad aK aV : Nat → Nat) (sa : Nat → Nat) (sz : Nat) (a : Nat → Nat) (A : Nat → Nat → Nat) (hlt : l.stackTraces = false) (K : Nat → VS) (b : CS) (n : Nat) (T : TS) (M : MS) (ou : Nat → Int64) (y : Int32) (hV : VO ((K 6).2.2.2 4) ((K 6).2.2.2 5) ((K 6).1)) (hn6 : n ≤ 6) : Met l yL_night wsL_night ({ frames := 8, cells := 1, slots := 6, locals := 142 }) (pL sa wa sw ad aK aV (dC, dI) (tyL cI cV cW cL) sz [.ref (a 0), .int y, .ref (a 14)] (LW cI cV cW cL a A (K, b, n, T) M ou)) (va_Qi (fun (r_ : Int32) (w9 : HU) => (r_ = nI 0 ∧ ∃ v9 : Int32, (v9 = nI (cW1 ((K 6).2.2.2 6) ((K 6).2.2.2 7) ((K 6).2.2.2 1) ((K 6).2.2.2 3) ((K 6).2.2.2 0) ((K 6).1) (ix y) ((((K 6).2.2.2 2), ((K 6).2.2.2 4), ((K 6).2.2.2 5), ((K 6).2.2.1)), b)).1 ∧ sIn y 1 20 = true) ∧ w9 = ((svA n A), (setK (svK n K) 6 (((K 6).1), ((K 6).2.1), ((cW1 ((K 6).2.2.2 6) ((K 6).2.2.2 7) ((K 6).2.2.2 1) ((K 6).2.2.2 3) ((K 6).2.2.2 0) ((K 6).1) (ix y) ((((K 6).2.2.2 2), ((K 6).2.2.2 4), ((K 6).2.2.2 5), ((K 6).2.2.1)), b)).2.1.2.2.2), mk8 ((K 6).2.2.2 0) ((K 6).2.2.2 1) ((cW1 ((K 6).2.2.2 6) ((K 6).2.2.2 7) ((K 6).2.2.2 1) ((K 6).2.2.2 3) ((K 6).2.2.2 0) ((K 6).1) (ix y) ((((K 6).2.2.2 2), ((K 6).2.2.2 4), ((K 6).2.2.2 5), ((K 6).2.2.1)), b)).2.1.1) ((K 6).2.2.2 3) ((cW1 ((K 6).2.2.2 6) ((K 6).2.2.2 7) ((K 6).2.2.2 1) ((K 6).2.2.2 3) ((K 6).2.2.2 0) ((K 6).1) (ix y) ((((K 6).2.2.2 2), ((K 6).2.2.2 4), ((K 6).2.2.2 5), ((K 6).2.2.1)), b)).2.1.2.1) ((cW1 ((K 6).2.2.2 6) ((K 6).2.2.2 7) ((K 6).2.2.2 1) ((K 6).2.2.2 3) ((K 6).2.2.2 0) ((K 6).1) (ix y) ((((K 6).2.2.2 2), ((K 6).2.2.2 4), ((K 6).2.2.2 5), ((K 6).2.2.1)), b)).2.1.2.2.1) ((K 6).2.2.2 6) ((K 6).2.2.2 7)), ((((cW1 ((K 6).2.2.2 6) ((K 6).2.2.2 7) ((K 6).2.2.2 1) ((K 6).2.2.2 3) ((K 6).2.2.2 0) ((K 6).1) (ix y) ((((K 6).2.2.2 2), ((K 6).2.2.2 4), ((K 6).2.2.2 5), ((K 6).2.2.1)), b)).2.2).1), (((cW1 ((K 6).2.2.2 6) ((K 6).2.2.2 7) ((K 6).2.2.2 1) ((K 6).2.2.2 3) ((K 6).2.2.2 0) ((K 6).1) (ix y) ((((K 6).2.2.2 2), ((K 6).2.2.2 4), ((K 6).2.2.2 5), ((K 6).2.2.1)), b)).2.2).2.1), (((cW1 ((K 6).2.2.2 6) ((K 6).2.2.2 7) ((K 6).2.2.2 1) ((K 6).2.2.2 3) ((K 6).2.2.2 0) ((K 6).1) (ix y) ((((K 6).2.2.2 2), ((K 6).2.2.2 4), ((K 6).2.2.2 5), ((K 6).2.2.1)), b)).2.2).2.2.1), (((cW1 ((K 6).2.2.2 6) ((K 6).2.2.2 7) ((K 6).2.2.2 1) ((K 6).2.2.2 3) ((K 6).2.2.2 0) ((K 6).1) (ix y) ((((K 6).2.2.2 2), ((K 6).2.2.2 4), ((K 6).2.2.2 5), ((K 6).2.2.1)), b)).2.2).2.2.2)), svN n, T), vp_updL ou (nI 0).toNatClampNeg v9.toInt64)) ∨ (((sIn y 1 20 = false ∧ r_ = nI 1)) ∧ w9 = (A, (K, b, n, T), ou))) (fun (w9 : HU) t => qL (dC, dI) (va_A (LW cI cV cW cL a A (K, b, n, T) M ou) sz) (LW cI cV cW cL a w9.1 w9.2.1 M w9.2.2) t) (va_A (LW cI cV cW cL a A (K, b, n, T) M ou) sz)) 1 6 (va_A (LW cI cV cW cL a A (K, b, n, T) M ou) sz) := by
  refine met_of_vx (vx_ofWH (cc := cL_night) (maxL := 4) (ret := (some .int)) (hh := [(0, 9, 12, 15)]) (by decide) rfl ?_)
  intro p e s m args below meth c s₁ B hml hv
  obtain ⟨rfl, hsz, hP, hK, hD0, hIm, hNw, hXm, hC3⟩ := hv
  have hx := B.exec
  have hb := B.bytes
  have hr := B.returns
  have hts := atoms_spec (ws := wsL_night) B.pre
  have hown : s.vm.findClass RL = some m.cls := findClass_of_methodNamed B.named
  have hlocks := B.notSynchronized
  have htab := vx_table (x := yL_night) B (hts _ List.mem_cons_self)
  subst hsz
  have hD := hD0.self (sz := s.heap.size)
  generalize hAe : va_A (LW cI cV cW cL a A (K, b, n, T) M ou) s.heap.size = Af at hD hIm hXm ⊢
  have hA : ∀ q : Nat, s.heap.size ≤ q → Af q := fun q h => by rw [← hAe]; exact Or.inr h
  have hS : va_S Af s.heap s.heap [] := va_S.rf
  refine w_gen hP hS (fun H locs hP hS => ?_)
  have hl := lv_entry ([.ref (a 0), .int y, .ref (a 14)]) (n := 4) (Nat.le_of_ble_eq_true rfl)
  rw [lg_entry_eq]
  generalize (lg_sl ([.ref (a 0), .int y, .ref (a 14)]) ++ List.replicate (4 - (lg_sl ([.ref (a 0), .int y, .ref (a 14)])).length) Slot.unset).toArray = ls at hl ⊢
  replace hl : lv_has ls 4 [(0, .ref (a 0)), (1, .int y), (2, .ref (a 14))] := hl
  refine lv_aload_n hx hb dL_night_0 rfl (lv_at hl 2 rfl) ?_
  refine lv_iconst (v := (nI 0)) hx hb dL_night_1 (by decide) ?_
  refine lv_aload_n hx hb dL_night_2 rfl (lv_at hl 0 rfl) ?_
  refine lv_iload_n hx hb dL_night_3 rfl (lv_at hl 1 rfl) ?_
  have hFc := freeW hD hS hA
  refine vx_calli (vx_runV (As := [.int y]) (rest := [.int (nI 0), .ref (a 14)]) ⟨hx, hb, hml, hown, hts⟩ (aX5_night l dC dI cI cV cW cL wa sw ad aK aV sa H.size a A hlt K b n T M ou y hV hn6) (cwV 1 hts gL_night_X5_night rfl rfl rfl hdX5_night ⟨Nat.le_of_ble_eq_true rfl, Nat.le_of_ble_eq_true rfl⟩) (pL_V (A := Af) hK (imW hIm hS hFc) hNw (hXm.at hS hFc) hC3 hP hD 0 3 rfl rfl rfl) rfl rfl hl.1 rfl (lv_room (Nat.le_of_ble_eq_true rfl)) dL_night_4 ⟨Nat.le_of_ble_eq_true rfl, Nat.le_of_ble_eq_true rfl⟩) hS (fun q _ h => hFc q h) hFc (fun q _ h => hFc q h) (fun E9 ce9 q9 _ t9_ H1 locs ht_ hvm_ _ hbx_ hz_ hk_ hS hce_ hcv_ hcl_ => ?_) (fun r_1 u_ t_ H1 locs ht_ hvm_ hw_ hB_ hz_ hk_ hS => ?_)
  · obtain ⟨hxc, hP1, hD1⟩ := hbx_
    rw [ht_] at hP1
    have hP := hP1
    have hD := hD1.weaken (fun _ q _ h => hFc q.1 h)
    obtain ⟨rfl, hc9⟩ := hxc
    refine vx_catch (own := RL) (name := eA) hown [] ⟨0, 9, 12, 15⟩ [] (by rw [htab]; rfl) (fun z hz => absurd hz List.not_mem_nil) (by decide) (by decide) (hts (.classLink RL 15 eA) (by decide +kernel)) (hXm.1.use _ (by decide +kernel)) hce_ hcv_ hcl_ ?_
    refine lv_astore_n (lv' := [(3, .ref q9), (0, .ref (a 0)), (1, .int y), (2, .ref (a 14))]) hx hb dL_night_12 rfl hl (by decide) rfl (fun ls hl => ?_)
    refine lv_iconst (v := (nI 1)) hx hb dL_night_13 (by decide) ?_
    refine W.widen (k := 1) (n := 6) (by decide) (by decide) ?_
    refine vx_ret ?_
    exact W.iret (v := (nI 1)) hx hb hr (fun t ht hW => ⟨⟨(nI 1), (A, (K, b, n, T), ou), rfl, Or.inr ⟨⟨hc9, rfl⟩, rfl⟩, by rw [ht]; exact hP, hD⟩, hS.F ht⟩) hS.2.2 dL_night_14
  obtain ⟨hP1, hD1⟩ := hB_
  rw [ht_] at hP1
  have hP := hP1
  have hD := hD1.weaken (fun _ q _ h => hFc q.1 h)
  clear hP1 hD1 hFc hk_ hz_ hvm_ ht_
  generalize H1 = H at hP hS ⊢
  refine lv_i2l (v := r_1.toInt64) hx hb dL_night_7 rfl ?_
  refine va_last hx hb hK hP hD hS 86 3 rfl rfl (vp_in_nI (by decide) (by decide)) dL_night_8 (fun H locs hP hD hS => ?_)
  replace hP : va_P (dC, dI) vwCl (LW cI cV cW cL a (svA n A) (setK (svK n K) 6 (((K 6).1), ((K 6).2.1), ((cW1 ((K 6).2.2.2 6) ((K 6).2.2.2 7) ((K 6).2.2.2 1) ((K 6).2.2.2 3) ((K 6).2.2.2 0) ((K 6).1) (ix y) ((((K 6).2.2.2 2), ((K 6).2.2.2 4), ((K 6).2.2.2 5), ((K 6).2.2.1)), b)).2.1.2.2.2), mk8 ((K 6).2.2.2 0) ((K 6).2.2.2 1) ((cW1 ((K 6).2.2.2 6) ((K 6).2.2.2 7) ((K 6).2.2.2 1) ((K 6).2.2.2 3) ((K 6).2.2.2 0) ((K 6).1) (ix y) ((((K 6).2.2.2 2), ((K 6).2.2.2 4), ((K 6).2.2.2 5), ((K 6).2.2.1)), b)).2.1.1) ((K 6).2.2.2 3) ((cW1 ((K 6).2.2.2 6) ((K 6).2.2.2 7) ((K 6).2.2.2 1) ((K 6).2.2.2 3) ((K 6).2.2.2 0) ((K 6).1) (ix y) ((((K 6).2.2.2 2), ((K 6).2.2.2 4), ((K 6).2.2.2 5), ((K 6).2.2.1)), b)).2.1.2.1) ((cW1 ((K 6).2.2.2 6) ((K 6).2.2.2 7) ((K 6).2.2.2 1) ((K 6).2.2.2 3) ((K 6).2.2.2 0) ((K 6).1) (ix y) ((((K 6).2.2.2 2), ((K 6).2.2.2 4), ((K 6).2.2.2 5), ((K 6).2.2.1)), b)).2.1.2.2.1) ((K 6).2.2.2 6) ((K 6).2.2.2 7)), ((((cW1 ((K 6).2.2.2 6) ((K 6).2.2.2 7) ((K 6).2.2.2 1) ((K 6).2.2.2 3) ((K 6).2.2.2 0) ((K 6).1) (ix y) ((((K 6).2.2.2 2), ((K 6).2.2.2 4), ((K 6).2.2.2 5), ((K 6).2.2.1)), b)).2.2).1), (((cW1 ((K 6).2.2.2 6) ((K 6).2.2.2 7) ((K 6).2.2.2 1) ((K 6).2.2.2 3) ((K 6).2.2.2 0) ((K 6).1) (ix y) ((((K 6).2.2.2 2), ((K 6).2.2.2 4), ((K 6).2.2.2 5), ((K 6).2.2.1)), b)).2.2).2.1), (((cW1 ((K 6).2.2.2 6) ((K 6).2.2.2 7) ((K 6).2.2.2 1) ((K 6).2.2.2 3) ((K 6).2.2.2 0) ((K 6).1) (ix y) ((((K 6).2.2.2 2), ((K 6).2.2.2 4), ((K 6).2.2.2 5), ((K 6).2.2.1)), b)).2.2).2.2.1), (((cW1 ((K 6).2.2.2 6) ((K 6).2.2.2 7) ((K 6).2.2.2 1) ((K 6).2.2.2 3) ((K 6).2.2.2 0) ((K 6).1) (ix y) ((((K 6).2.2.2 2), ((K 6).2.2.2 4), ((K 6).2.2.2 5), ((K 6).2.2.1)), b)).2.2).2.2.2)), svN n, T) M (vp_updL ou (nI 0).toNatClampNeg r_1.toInt64)) H := hP
  replace hD : va_D Af (LW cI cV cW cL a (svA n A) (setK (svK n K) 6 (((K 6).1), ((K 6).2.1), ((cW1 ((K 6).2.2.2 6) ((K 6).2.2.2 7) ((K 6).2.2.2 1) ((K 6).2.2.2 3) ((K 6).2.2.2 0) ((K 6).1) (ix y) ((((K 6).2.2.2 2), ((K 6).2.2.2 4), ((K 6).2.2.2 5), ((K 6).2.2.1)), b)).2.1.2.2.2), mk8 ((K 6).2.2.2 0) ((K 6).2.2.2 1) ((cW1 ((K 6).2.2.2 6) ((K 6).2.2.2 7) ((K 6).2.2.2 1) ((K 6).2.2.2 3) ((K 6).2.2.2 0) ((K 6).1) (ix y) ((((K 6).2.2.2 2), ((K 6).2.2.2 4), ((K 6).2.2.2 5), ((K 6).2.2.1)), b)).2.1.1) ((K 6).2.2.2 3) ((cW1 ((K 6).2.2.2 6) ((K 6).2.2.2 7) ((K 6).2.2.2 1) ((K 6).2.2.2 3) ((K 6).2.2.2 0) ((K 6).1) (ix y) ((((K 6).2.2.2 2), ((K 6).2.2.2 4), ((K 6).2.2.2 5), ((K 6).2.2.1)), b)).2.1.2.1) ((cW1 ((K 6).2.2.2 6) ((K 6).2.2.2 7) ((K 6).2.2.2 1) ((K 6).2.2.2 3) ((K 6).2.2.2 0) ((K 6).1) (ix y) ((((K 6).2.2.2 2), ((K 6).2.2.2 4), ((K 6).2.2.2 5), ((K 6).2.2.1)), b)).2.1.2.2.1) ((K 6).2.2.2 6) ((K 6).2.2.2 7)), ((((cW1 ((K 6).2.2.2 6) ((K 6).2.2.2 7) ((K 6).2.2.2 1) ((K 6).2.2.2 3) ((K 6).2.2.2 0) ((K 6).1) (ix y) ((((K 6).2.2.2 2), ((K 6).2.2.2 4), ((K 6).2.2.2 5), ((K 6).2.2.1)), b)).2.2).1), (((cW1 ((K 6).2.2.2 6) ((K 6).2.2.2 7) ((K 6).2.2.2 1) ((K 6).2.2.2 3) ((K 6).2.2.2 0) ((K 6).1) (ix y) ((((K 6).2.2.2 2), ((K 6).2.2.2 4), ((K 6).2.2.2 5), ((K 6).2.2.1)), b)).2.2).2.1), (((cW1 ((K 6).2.2.2 6) ((K 6).2.2.2 7) ((K 6).2.2.2 1) ((K 6).2.2.2 3) ((K 6).2.2.2 0) ((K 6).1) (ix y) ((((K 6).2.2.2 2), ((K 6).2.2.2 4), ((K 6).2.2.2 5), ((K 6).2.2.1)), b)).2.2).2.2.1), (((cW1 ((K 6).2.2.2 6) ((K 6).2.2.2 7) ((K 6).2.2.2 1) ((K 6).2.2.2 3) ((K 6).2.2.2 0) ((K 6).1) (ix y) ((((K 6).2.2.2 2), ((K 6).2.2.2 4), ((K 6).2.2.2 5), ((K 6).2.2.1)), b)).2.2).2.2.2)), svN n, T) M (vp_updL ou (nI 0).toNatClampNeg r_1.toInt64)) := hD
  refine lv_goto (tgt := 15) hx hb dL_night_9 (by decide) ?_
  refine lv_iconst (v := (nI 0)) hx hb dL_night_15 (by decide) ?_
  refine W.widen (k := 1) (n := 6) (by decide) (by decide) ?_
  refine vx_ret ?_
  exact W.iret (v := (nI 0)) hx hb hr (fun t ht hW => ⟨⟨(nI 0), ((svA n A), (setK (svK n K) 6 (((K 6).1), ((K 6).2.1), ((cW1 ((K 6).2.2.2 6) ((K 6).2.2.2 7) ((K 6).2.2.2 1) ((K 6).2.2.2 3) ((K 6).2.2.2 0) ((K 6).1) (ix y) ((((K 6).2.2.2 2), ((K 6).2.2.2 4), ((K 6).2.2.2 5), ((K 6).2.2.1)), b)).2.1.2.2.2), mk8 ((K 6).2.2.2 0) ((K 6).2.2.2 1) ((cW1 ((K 6).2.2.2 6) ((K 6).2.2.2 7) ((K 6).2.2.2 1) ((K 6).2.2.2 3) ((K 6).2.2.2 0) ((K 6).1) (ix y) ((((K 6).2.2.2 2), ((K 6).2.2.2 4), ((K 6).2.2.2 5), ((K 6).2.2.1)), b)).2.1.1) ((K 6).2.2.2 3) ((cW1 ((K 6).2.2.2 6) ((K 6).2.2.2 7) ((K 6).2.2.2 1) ((K 6).2.2.2 3) ((K 6).2.2.2 0) ((K 6).1) (ix y) ((((K 6).2.2.2 2), ((K 6).2.2.2 4), ((K 6).2.2.2 5), ((K 6).2.2.1)), b)).2.1.2.1) ((cW1 ((K 6).2.2.2 6) ((K 6).2.2.2 7) ((K 6).2.2.2 1) ((K 6).2.2.2 3) ((K 6).2.2.2 0) ((K 6).1) (ix y) ((((K 6).2.2.2 2), ((K 6).2.2.2 4), ((K 6).2.2.2 5), ((K 6).2.2.1)), b)).2.1.2.2.1) ((K 6).2.2.2 6) ((K 6).2.2.2 7)), ((((cW1 ((K 6).2.2.2 6) ((K 6).2.2.2 7) ((K 6).2.2.2 1) ((K 6).2.2.2 3) ((K 6).2.2.2 0) ((K 6).1) (ix y) ((((K 6).2.2.2 2), ((K 6).2.2.2 4), ((K 6).2.2.2 5), ((K 6).2.2.1)), b)).2.2).1), (((cW1 ((K 6).2.2.2 6) ((K 6).2.2.2 7) ((K 6).2.2.2 1) ((K 6).2.2.2 3) ((K 6).2.2.2 0) ((K 6).1) (ix y) ((((K 6).2.2.2 2), ((K 6).2.2.2 4), ((K 6).2.2.2 5), ((K 6).2.2.1)), b)).2.2).2.1), (((cW1 ((K 6).2.2.2 6) ((K 6).2.2.2 7) ((K 6).2.2.2 1) ((K 6).2.2.2 3) ((K 6).2.2.2 0) ((K 6).1) (ix y) ((((K 6).2.2.2 2), ((K 6).2.2.2 4), ((K 6).2.2.2 5), ((K 6).2.2.1)), b)).2.2).2.2.1), (((cW1 ((K 6).2.2.2 6) ((K 6).2.2.2 7) ((K 6).2.2.2 1) ((K 6).2.2.2 3) ((K 6).2.2.2 0) ((K 6).1) (ix y) ((((K 6).2.2.2 2), ((K 6).2.2.2 4), ((K 6).2.2.2 5), ((K 6).2.2.1)), b)).2.2).2.2.2)), svN n, T), vp_updL ou (nI 0).toNatClampNeg r_1.toInt64), rfl, Or.inl ⟨rfl, r_1, hw_, rfl⟩, by rw [ht]; exact hP, hD⟩, hS.F ht⟩) hS.2.2 dL_night_16
theorem hdX5_reason : yX5_reason.cls = RX5 ∧ yX5_reason.cls ≠ "java/lang/invoke/MethodHandle" ∧ yX5_reason.cls ≠ "java/lang/invoke/VarHandle" ∧ (parseMethodDescriptor yX5_reason.desc).map (fun d => d.parameters.length) = some 2 := by decide +kernel
set_option maxHeartbeats 4000000 in
set_option maxRecDepth 100000 in
theorem hL_reason (l : Launch) (dC : Nat → ClassId) (dI : Nat → Nat → Nat) (cI cV cW cL : ClassId) (wa sw : Nat) (ad aK aV : Nat → Nat) (sa : Nat → Nat) (sz : Nat) (a : Nat → Nat) (A : Nat → Nat → Nat) (hlt : l.stackTraces = false) (K : Nat → VS) (b : CS) (n : Nat) (T : TS) (M : MS) (ou : Nat → Int64) (y : Int32) (z : Int32) (hV : VO ((K 6).2.2.2 4) ((K 6).2.2.2 5) ((K 6).1)) : Met l yL_reason wsL_reason ({ frames := 8, cells := 2, slots := 12, locals := 143 }) (pL sa wa sw ad aK aV (dC, dI) (tyL cI cV cW cL) sz [.ref (a 0), .int y, .int z, .ref (a 14)] (LW cI cV cW cL a A (K, b, n, T) M ou)) (va_Qi (fun (r_ : Int32) (w9 : HU) => (r_ = nI 0 ∧ ∃ v9 : Int32, (v9 = cRsn ((K 6).2.2.2 6) ((K 6).2.2.2 7) ((K 6).2.2.2 1) ((K 6).2.2.2 4) ((K 6).2.2.2 5) ((K 6).2.2.2 0) ((K 6).2.2.2 2) ((K 6).2.2.2 3) (ix y) (ix z) ∧ sHas y ((K 6).1) = true ∧ sIn z 0 5 = true) ∧ w9 = (A, (K, b, n, T), vp_updL ou (nI 0).toNatClampNeg v9.toInt64)) ∨ ((((sHas y ((K 6).1) = false ∨ sIn z 0 5 = false) ∧ r_ = nI 1)) ∧ w9 = (A, (K, b, n, T), ou))) (fun (w9 : HU) t => qL (dC, dI) (va_A (LW cI cV cW cL a A (K, b, n, T) M ou) sz) (LW cI cV cW cL a w9.1 w9.2.1 M w9.2.2) t) (va_A (LW cI cV cW cL a A (K, b, n, T) M ou) sz)) 2 12 (va_A (LW cI cV cW cL a A (K, b, n, T) M ou) sz) := by
  refine met_of_vx (vx_ofWH (cc := cL_reason) (maxL := 5) (ret := (some .int)) (hh := [(0, 10, 13, 13)]) (by decide) rfl ?_)
  intro p e s m args below meth c s₁ B hml hv
  obtain ⟨rfl, hsz, hP, hK, hD0, hIm, hNw, hXm, hC3⟩ := hv
  have hx := B.exec
  have hb := B.bytes
  have hr := B.returns
  have hts := atoms_spec (ws := wsL_reason) B.pre
  have hown : s.vm.findClass RL = some m.cls := findClass_of_methodNamed B.named
  have hlocks := B.notSynchronized
  have htab := vx_table (x := yL_reason) B (hts _ List.mem_cons_self)
  subst hsz
  have hD := hD0.self (sz := s.heap.size)
  generalize hAe : va_A (LW cI cV cW cL a A (K, b, n, T) M ou) s.heap.size = Af at hD hIm hXm ⊢
  have hA : ∀ q : Nat, s.heap.size ≤ q → Af q := fun q h => by rw [← hAe]; exact Or.inr h
  have hS : va_S Af s.heap s.heap [] := va_S.rf
  refine w_gen hP hS (fun H locs hP hS => ?_)
  have hl := lv_entry ([.ref (a 0), .int y, .int z, .ref (a 14)]) (n := 5) (Nat.le_of_ble_eq_true rfl)
  rw [lg_entry_eq]
  generalize (lg_sl ([.ref (a 0), .int y, .int z, .ref (a 14)]) ++ List.replicate (5 - (lg_sl ([.ref (a 0), .int y, .int z, .ref (a 14)])).length) Slot.unset).toArray = ls at hl ⊢
  replace hl : lv_has ls 5 [(0, .ref (a 0)), (1, .int y), (2, .int z), (3, .ref (a 14))] := hl
  refine lv_aload_n hx hb dL_reason_0 rfl (lv_at hl 3 rfl) ?_
  refine lv_iconst (v := (nI 0)) hx hb dL_reason_1 (by decide) ?_
  refine lv_aload_n hx hb dL_reason_2 rfl (lv_at hl 0 rfl) ?_
  refine lv_iload_n hx hb dL_reason_3 rfl (lv_at hl 1 rfl) ?_
  refine lv_iload_n hx hb dL_reason_4 rfl (lv_at hl 2 rfl) ?_
  have hFc := freeW hD hS hA
  refine vx_calli (vx_runV (As := [.int y, .int z]) (rest := [.int (nI 0), .ref (a 14)]) ⟨hx, hb, hml, hown, hts⟩ (aX5_reason l dC dI cI cV cW cL wa sw ad aK aV sa H.size a A hlt K b n T M ou y z hV) (cwV 2 hts gL_reason_X5_reason rfl rfl rfl hdX5_reason ⟨Nat.le_of_ble_eq_true rfl, Nat.le_of_ble_eq_true rfl⟩) (pL_V (A := Af) hK (imW hIm hS hFc) hNw (hXm.at hS hFc) hC3 hP hD 0 3 rfl rfl rfl) rfl rfl hl.1 rfl (lv_room (Nat.le_of_ble_eq_true rfl)) dL_reason_5 ⟨Nat.le_of_ble_eq_true rfl, Nat.le_of_ble_eq_true rfl⟩) hS (fun q _ h => hFc q h) hFc (fun q _ h => hFc q h) (fun E9 ce9 q9 _ t9_ H1 locs ht_ hvm_ _ hbx_ hz_ hk_ hS hce_ hcv_ hcl_ => ?_) (fun r_1 u_ t_ H1 locs ht_ hvm_ hw_ hB_ hz_ hk_ hS => ?_)
  · obtain ⟨hxc, hP1, hD1⟩ := hbx_
    rw [ht_] at hP1
    have hP := hP1
    have hD := hD1.weaken (fun _ q _ h => hFc q.1 h)
    obtain ⟨rfl, hc9⟩ := hxc
    refine vx_catch (own := RL) (name := eI) hown [] ⟨0, 10, 13, 13⟩ [] (by rw [htab]; rfl) (fun z hz => absurd hz List.not_mem_nil) (by decide) (by decide) (hts (.classLink RL 13 eI) (by decide +kernel)) (hXm.1.use _ (by decide +kernel)) hce_ hcv_ hcl_ ?_
    refine lv_astore (lv' := [(4, .ref q9), (0, .ref (a 0)), (1, .int y), (2, .int z), (3, .ref (a 14))]) hx hb dL_reason_13 hl (by decide) rfl (fun ls hl => ?_)
    refine lv_iconst (v := (nI 1)) hx hb dL_reason_15 (by decide) ?_
    refine W.widen (k := 2) (n := 12) (by decide) (by decide) ?_
    refine vx_ret ?_
    exact W.iret (v := (nI 1)) hx hb hr (fun t ht hW => ⟨⟨(nI 1), (A, (K, b, n, T), ou), rfl, Or.inr ⟨⟨hc9, rfl⟩, rfl⟩, by rw [ht]; exact hP, hD⟩, hS.F ht⟩) hS.2.2 dL_reason_16
  obtain ⟨hP1, hD1⟩ := hB_
  rw [ht_] at hP1
  have hP := hP1
  have hD := hD1.weaken (fun _ q _ h => hFc q.1 h)
  clear hP1 hD1 hFc hk_ hz_ hvm_ ht_
  generalize H1 = H at hP hS ⊢
  refine lv_i2l (v := r_1.toInt64) hx hb dL_reason_8 rfl ?_
  refine va_last hx hb hK hP hD hS 86 3 rfl rfl (vp_in_nI (by decide) (by decide)) dL_reason_9 (fun H locs hP hD hS => ?_)
  replace hP : va_P (dC, dI) vwCl (LW cI cV cW cL a A (K, b, n, T) M (vp_updL ou (nI 0).toNatClampNeg r_1.toInt64)) H := hP
  replace hD : va_D Af (LW cI cV cW cL a A (K, b, n, T) M (vp_updL ou (nI 0).toNatClampNeg r_1.toInt64)) := hD
  refine lv_goto (tgt := 17) hx hb dL_reason_10 (by decide) ?_
  refine lv_iconst (v := (nI 0)) hx hb dL_reason_17 (by decide) ?_
  refine W.widen (k := 2) (n := 12) (by decide) (by decide) ?_
  refine vx_ret ?_
  exact W.iret (v := (nI 0)) hx hb hr (fun t ht hW => ⟨⟨(nI 0), (A, (K, b, n, T), vp_updL ou (nI 0).toNatClampNeg r_1.toInt64), rfl, Or.inl ⟨rfl, r_1, hw_, rfl⟩, by rw [ht]; exact hP, hD⟩, hS.F ht⟩) hS.2.2 dL_reason_18
theorem hdX5_costAfterNight : yX5_costAfterNight.cls = RX5 ∧ yX5_costAfterNight.cls ≠ "java/lang/invoke/MethodHandle" ∧ yX5_costAfterNight.cls ≠ "java/lang/invoke/VarHandle" ∧ (parseMethodDescriptor yX5_costAfterNight.desc).map (fun d => d.parameters.length) = some 1 := by decide +kernel
set_option maxHeartbeats 4000000 in
set_option maxRecDepth 100000 in
theorem hL_costAfterNight (l : Launch) (dC : Nat → ClassId) (dI : Nat → Nat → Nat) (cI cV cW cL : ClassId) (wa sw : Nat) (ad aK aV : Nat → Nat) (sa : Nat → Nat) (sz : Nat) (a : Nat → Nat) (A : Nat → Nat → Nat) (hlt : l.stackTraces = false) (K : Nat → VS) (b : CS) (n : Nat) (T : TS) (M : MS) (ou : Nat → Int64) (y : Int32) (hV : VO ((K 6).2.2.2 4) ((K 6).2.2.2 5) ((K 6).1)) : Met l yL_costAfterNight wsL_costAfterNight ({ frames := 8, cells := 1, slots := 6, locals := 141 }) (pL sa wa sw ad aK aV (dC, dI) (tyL cI cV cW cL) sz [.ref (a 0), .int y, .ref (a 14)] (LW cI cV cW cL a A (K, b, n, T) M ou)) (va_Qi (fun (r_ : Int32) (w9 : HU) => (r_ = nI 0 ∧ ∃ v9 : Int32, (v9 = sCo (va_cpy ((K 6).2.2.2 6) ((K 7).2.2.2 6) 0 0 16) (va_cpy ((K 6).2.2.2 7) ((K 7).2.2.2 7) 0 0 16) (cW1 (va_cpy ((K 6).2.2.2 6) ((K 7).2.2.2 6) 0 0 16) (va_cpy ((K 6).2.2.2 7) ((K 7).2.2.2 7) 0 0 16) (va_cpy ((K 6).2.2.2 1) ((K 7).2.2.2 1) 0 0 6) (va_cpy ((K 6).2.2.2 3) ((K 7).2.2.2 3) 0 0 16) (va_cpy ((K 6).2.2.2 0) ((K 7).2.2.2 0) 0 0 6) ((K 6).1) (ix y) (((va_cpy ((K 6).2.2.2 2) ((K 7).2.2.2 2) 0 0 6), (va_cpy ((K 6).2.2.2 4) ((K 7).2.2.2 4) 0 0 16), (va_cpy ((K 6).2.2.2 5) ((K 7).2.2.2 5) 0 0 16), ((K 6).2.2.1)), b)).2.1.2.2.1 (va_cpy ((K 6).2.2.2 1) ((K 7).2.2.2 1) 0 0 6) ((K 6).1) ∧ sIn y 1 20 = true) ∧ w9 = (A, (setK K 7 (((K 6).1), ((K 6).2.1), ((cW1 (va_cpy ((K 6).2.2.2 6) ((K 7).2.2.2 6) 0 0 16) (va_cpy ((K 6).2.2.2 7) ((K 7).2.2.2 7) 0 0 16) (va_cpy ((K 6).2.2.2 1) ((K 7).2.2.2 1) 0 0 6) (va_cpy ((K 6).2.2.2 3) ((K 7).2.2.2 3) 0 0 16) (va_cpy ((K 6).2.2.2 0) ((K 7).2.2.2 0) 0 0 6) ((K 6).1) (ix y) (((va_cpy ((K 6).2.2.2 2) ((K 7).2.2.2 2) 0 0 6), (va_cpy ((K 6).2.2.2 4) ((K 7).2.2.2 4) 0 0 16), (va_cpy ((K 6).2.2.2 5) ((K 7).2.2.2 5) 0 0 16), ((K 6).2.2.1)), b)).2.1.2.2.2), mk8 (va_cpy ((K 6).2.2.2 0) ((K 7).2.2.2 0) 0 0 6) (va_cpy ((K 6).2.2.2 1) ((K 7).2.2.2 1) 0 0 6) ((cW1 (va_cpy ((K 6).2.2.2 6) ((K 7).2.2.2 6) 0 0 16) (va_cpy ((K 6).2.2.2 7) ((K 7).2.2.2 7) 0 0 16) (va_cpy ((K 6).2.2.2 1) ((K 7).2.2.2 1) 0 0 6) (va_cpy ((K 6).2.2.2 3) ((K 7).2.2.2 3) 0 0 16) (va_cpy ((K 6).2.2.2 0) ((K 7).2.2.2 0) 0 0 6) ((K 6).1) (ix y) (((va_cpy ((K 6).2.2.2 2) ((K 7).2.2.2 2) 0 0 6), (va_cpy ((K 6).2.2.2 4) ((K 7).2.2.2 4) 0 0 16), (va_cpy ((K 6).2.2.2 5) ((K 7).2.2.2 5) 0 0 16), ((K 6).2.2.1)), b)).2.1.1) (va_cpy ((K 6).2.2.2 3) ((K 7).2.2.2 3) 0 0 16) ((cW1 (va_cpy ((K 6).2.2.2 6) ((K 7).2.2.2 6) 0 0 16) (va_cpy ((K 6).2.2.2 7) ((K 7).2.2.2 7) 0 0 16) (va_cpy ((K 6).2.2.2 1) ((K 7).2.2.2 1) 0 0 6) (va_cpy ((K 6).2.2.2 3) ((K 7).2.2.2 3) 0 0 16) (va_cpy ((K 6).2.2.2 0) ((K 7).2.2.2 0) 0 0 6) ((K 6).1) (ix y) (((va_cpy ((K 6).2.2.2 2) ((K 7).2.2.2 2) 0 0 6), (va_cpy ((K 6).2.2.2 4) ((K 7).2.2.2 4) 0 0 16), (va_cpy ((K 6).2.2.2 5) ((K 7).2.2.2 5) 0 0 16), ((K 6).2.2.1)), b)).2.1.2.1) ((cW1 (va_cpy ((K 6).2.2.2 6) ((K 7).2.2.2 6) 0 0 16) (va_cpy ((K 6).2.2.2 7) ((K 7).2.2.2 7) 0 0 16) (va_cpy ((K 6).2.2.2 1) ((K 7).2.2.2 1) 0 0 6) (va_cpy ((K 6).2.2.2 3) ((K 7).2.2.2 3) 0 0 16) (va_cpy ((K 6).2.2.2 0) ((K 7).2.2.2 0) 0 0 6) ((K 6).1) (ix y) (((va_cpy ((K 6).2.2.2 2) ((K 7).2.2.2 2) 0 0 6), (va_cpy ((K 6).2.2.2 4) ((K 7).2.2.2 4) 0 0 16), (va_cpy ((K 6).2.2.2 5) ((K 7).2.2.2 5) 0 0 16), ((K 6).2.2.1)), b)).2.1.2.2.1) (va_cpy ((K 6).2.2.2 6) ((K 7).2.2.2 6) 0 0 16) (va_cpy ((K 6).2.2.2 7) ((K 7).2.2.2 7) 0 0 16)), ((((cW1 (va_cpy ((K 6).2.2.2 6) ((K 7).2.2.2 6) 0 0 16) (va_cpy ((K 6).2.2.2 7) ((K 7).2.2.2 7) 0 0 16) (va_cpy ((K 6).2.2.2 1) ((K 7).2.2.2 1) 0 0 6) (va_cpy ((K 6).2.2.2 3) ((K 7).2.2.2 3) 0 0 16) (va_cpy ((K 6).2.2.2 0) ((K 7).2.2.2 0) 0 0 6) ((K 6).1) (ix y) (((va_cpy ((K 6).2.2.2 2) ((K 7).2.2.2 2) 0 0 6), (va_cpy ((K 6).2.2.2 4) ((K 7).2.2.2 4) 0 0 16), (va_cpy ((K 6).2.2.2 5) ((K 7).2.2.2 5) 0 0 16), ((K 6).2.2.1)), b)).2.2).1), (((cW1 (va_cpy ((K 6).2.2.2 6) ((K 7).2.2.2 6) 0 0 16) (va_cpy ((K 6).2.2.2 7) ((K 7).2.2.2 7) 0 0 16) (va_cpy ((K 6).2.2.2 1) ((K 7).2.2.2 1) 0 0 6) (va_cpy ((K 6).2.2.2 3) ((K 7).2.2.2 3) 0 0 16) (va_cpy ((K 6).2.2.2 0) ((K 7).2.2.2 0) 0 0 6) ((K 6).1) (ix y) (((va_cpy ((K 6).2.2.2 2) ((K 7).2.2.2 2) 0 0 6), (va_cpy ((K 6).2.2.2 4) ((K 7).2.2.2 4) 0 0 16), (va_cpy ((K 6).2.2.2 5) ((K 7).2.2.2 5) 0 0 16), ((K 6).2.2.1)), b)).2.2).2.1), (((cW1 (va_cpy ((K 6).2.2.2 6) ((K 7).2.2.2 6) 0 0 16) (va_cpy ((K 6).2.2.2 7) ((K 7).2.2.2 7) 0 0 16) (va_cpy ((K 6).2.2.2 1) ((K 7).2.2.2 1) 0 0 6) (va_cpy ((K 6).2.2.2 3) ((K 7).2.2.2 3) 0 0 16) (va_cpy ((K 6).2.2.2 0) ((K 7).2.2.2 0) 0 0 6) ((K 6).1) (ix y) (((va_cpy ((K 6).2.2.2 2) ((K 7).2.2.2 2) 0 0 6), (va_cpy ((K 6).2.2.2 4) ((K 7).2.2.2 4) 0 0 16), (va_cpy ((K 6).2.2.2 5) ((K 7).2.2.2 5) 0 0 16), ((K 6).2.2.1)), b)).2.2).2.2.1), (((cW1 (va_cpy ((K 6).2.2.2 6) ((K 7).2.2.2 6) 0 0 16) (va_cpy ((K 6).2.2.2 7) ((K 7).2.2.2 7) 0 0 16) (va_cpy ((K 6).2.2.2 1) ((K 7).2.2.2 1) 0 0 6) (va_cpy ((K 6).2.2.2 3) ((K 7).2.2.2 3) 0 0 16) (va_cpy ((K 6).2.2.2 0) ((K 7).2.2.2 0) 0 0 6) ((K 6).1) (ix y) (((va_cpy ((K 6).2.2.2 2) ((K 7).2.2.2 2) 0 0 6), (va_cpy ((K 6).2.2.2 4) ((K 7).2.2.2 4) 0 0 16), (va_cpy ((K 6).2.2.2 5) ((K 7).2.2.2 5) 0 0 16), ((K 6).2.2.1)), b)).2.2).2.2.2)), n, T), vp_updL ou (nI 0).toNatClampNeg v9.toInt64)) ∨ (((sIn y 1 20 = false ∧ r_ = nI 1)) ∧ w9 = (A, (setK K 7 (((K 7).1), ((K 7).2.1), ((K 7).2.2.1), mk8 ((K 7).2.2.2 0) ((K 7).2.2.2 1) ((K 7).2.2.2 2) ((K 7).2.2.2 3) ((K 7).2.2.2 4) ((K 7).2.2.2 5) ((K 7).2.2.2 6) ((K 7).2.2.2 7)), b, n, T), ou))) (fun (w9 : HU) t => qL (dC, dI) (va_A (LW cI cV cW cL a A (K, b, n, T) M ou) sz) (LW cI cV cW cL a w9.1 w9.2.1 M w9.2.2) t) (va_A (LW cI cV cW cL a A (K, b, n, T) M ou) sz)) 1 6 (va_A (LW cI cV cW cL a A (K, b, n, T) M ou) sz) := by
  refine met_of_vx (vx_ofWH (cc := cL_costAfterNight) (maxL := 4) (ret := (some .int)) (hh := [(0, 9, 12, 15)]) (by decide) rfl ?_)
  intro p e s m args below meth c s₁ B hml hv
  obtain ⟨rfl, hsz, hP, hK, hD0, hIm, hNw, hXm, hC3⟩ := hv
  have hx := B.exec
  have hb := B.bytes
  have hr := B.returns
  have hts := atoms_spec (ws := wsL_costAfterNight) B.pre
  have hown : s.vm.findClass RL = some m.cls := findClass_of_methodNamed B.named
  have hlocks := B.notSynchronized
  have htab := vx_table (x := yL_costAfterNight) B (hts _ List.mem_cons_self)
  subst hsz
  have hD := hD0.self (sz := s.heap.size)
  generalize hAe : va_A (LW cI cV cW cL a A (K, b, n, T) M ou) s.heap.size = Af at hD hIm hXm ⊢
  have hA : ∀ q : Nat, s.heap.size ≤ q → Af q := fun q h => by rw [← hAe]; exact Or.inr h
  have hS : va_S Af s.heap s.heap [] := va_S.rf
  refine w_gen hP hS (fun H locs hP hS => ?_)
  have hl := lv_entry ([.ref (a 0), .int y, .ref (a 14)]) (n := 4) (Nat.le_of_ble_eq_true rfl)
  rw [lg_entry_eq]
  generalize (lg_sl ([.ref (a 0), .int y, .ref (a 14)]) ++ List.replicate (4 - (lg_sl ([.ref (a 0), .int y, .ref (a 14)])).length) Slot.unset).toArray = ls at hl ⊢
  replace hl : lv_has ls 4 [(0, .ref (a 0)), (1, .int y), (2, .ref (a 14))] := hl
  refine lv_aload_n hx hb dL_costAfterNight_0 rfl (lv_at hl 2 rfl) ?_
  refine lv_iconst (v := (nI 0)) hx hb dL_costAfterNight_1 (by decide) ?_
  refine lv_aload_n hx hb dL_costAfterNight_2 rfl (lv_at hl 0 rfl) ?_
  refine lv_iload_n hx hb dL_costAfterNight_3 rfl (lv_at hl 1 rfl) ?_
  have hFc := freeW hD hS hA
  refine vx_calli (vx_runV (As := [.int y]) (rest := [.int (nI 0), .ref (a 14)]) ⟨hx, hb, hml, hown, hts⟩ (aX5_costAfterNight l dC dI cI cV cW cL wa sw ad aK aV sa H.size a A hlt K b n T M ou y hV) (cwV 1 hts gL_costAfterNight_X5_costAfterNight rfl rfl rfl hdX5_costAfterNight ⟨Nat.le_of_ble_eq_true rfl, Nat.le_of_ble_eq_true rfl⟩) (pL_V (A := Af) hK (imW hIm hS hFc) hNw (hXm.at hS hFc) hC3 hP hD 0 3 rfl rfl rfl) rfl rfl hl.1 rfl (lv_room (Nat.le_of_ble_eq_true rfl)) dL_costAfterNight_4 ⟨Nat.le_of_ble_eq_true rfl, Nat.le_of_ble_eq_true rfl⟩) hS (fun q _ h => hFc q h) hFc (fun q _ h => hFc q h) (fun E9 ce9 q9 _ t9_ H1 locs ht_ hvm_ _ hbx_ hz_ hk_ hS hce_ hcv_ hcl_ => ?_) (fun r_1 u_ t_ H1 locs ht_ hvm_ hw_ hB_ hz_ hk_ hS => ?_)
  · obtain ⟨hxc, hP1, hD1⟩ := hbx_
    rw [ht_] at hP1
    have hP := hP1
    have hD := hD1.weaken (fun _ q _ h => hFc q.1 h)
    obtain ⟨rfl, hc9⟩ := hxc
    refine vx_catch (own := RL) (name := eA) hown [] ⟨0, 9, 12, 15⟩ [] (by rw [htab]; rfl) (fun z hz => absurd hz List.not_mem_nil) (by decide) (by decide) (hts (.classLink RL 15 eA) (by decide +kernel)) (hXm.1.use _ (by decide +kernel)) hce_ hcv_ hcl_ ?_
    refine lv_astore_n (lv' := [(3, .ref q9), (0, .ref (a 0)), (1, .int y), (2, .ref (a 14))]) hx hb dL_costAfterNight_12 rfl hl (by decide) rfl (fun ls hl => ?_)
    refine lv_iconst (v := (nI 1)) hx hb dL_costAfterNight_13 (by decide) ?_
    refine W.widen (k := 1) (n := 6) (by decide) (by decide) ?_
    refine vx_ret ?_
    exact W.iret (v := (nI 1)) hx hb hr (fun t ht hW => ⟨⟨(nI 1), (A, (setK K 7 (((K 7).1), ((K 7).2.1), ((K 7).2.2.1), mk8 ((K 7).2.2.2 0) ((K 7).2.2.2 1) ((K 7).2.2.2 2) ((K 7).2.2.2 3) ((K 7).2.2.2 4) ((K 7).2.2.2 5) ((K 7).2.2.2 6) ((K 7).2.2.2 7)), b, n, T), ou), rfl, Or.inr ⟨⟨hc9, rfl⟩, rfl⟩, by rw [ht]; exact hP, hD⟩, hS.F ht⟩) hS.2.2 dL_costAfterNight_14
  obtain ⟨hP1, hD1⟩ := hB_
  rw [ht_] at hP1
  have hP := hP1
  have hD := hD1.weaken (fun _ q _ h => hFc q.1 h)
  clear hP1 hD1 hFc hk_ hz_ hvm_ ht_
  generalize H1 = H at hP hS ⊢
  refine lv_i2l (v := r_1.toInt64) hx hb dL_costAfterNight_7 rfl ?_
  refine va_last hx hb hK hP hD hS 86 3 rfl rfl (vp_in_nI (by decide) (by decide)) dL_costAfterNight_8 (fun H locs hP hD hS => ?_)
  replace hP : va_P (dC, dI) vwCl (LW cI cV cW cL a A (setK K 7 (((K 6).1), ((K 6).2.1), ((cW1 (va_cpy ((K 6).2.2.2 6) ((K 7).2.2.2 6) 0 0 16) (va_cpy ((K 6).2.2.2 7) ((K 7).2.2.2 7) 0 0 16) (va_cpy ((K 6).2.2.2 1) ((K 7).2.2.2 1) 0 0 6) (va_cpy ((K 6).2.2.2 3) ((K 7).2.2.2 3) 0 0 16) (va_cpy ((K 6).2.2.2 0) ((K 7).2.2.2 0) 0 0 6) ((K 6).1) (ix y) (((va_cpy ((K 6).2.2.2 2) ((K 7).2.2.2 2) 0 0 6), (va_cpy ((K 6).2.2.2 4) ((K 7).2.2.2 4) 0 0 16), (va_cpy ((K 6).2.2.2 5) ((K 7).2.2.2 5) 0 0 16), ((K 6).2.2.1)), b)).2.1.2.2.2), mk8 (va_cpy ((K 6).2.2.2 0) ((K 7).2.2.2 0) 0 0 6) (va_cpy ((K 6).2.2.2 1) ((K 7).2.2.2 1) 0 0 6) ((cW1 (va_cpy ((K 6).2.2.2 6) ((K 7).2.2.2 6) 0 0 16) (va_cpy ((K 6).2.2.2 7) ((K 7).2.2.2 7) 0 0 16) (va_cpy ((K 6).2.2.2 1) ((K 7).2.2.2 1) 0 0 6) (va_cpy ((K 6).2.2.2 3) ((K 7).2.2.2 3) 0 0 16) (va_cpy ((K 6).2.2.2 0) ((K 7).2.2.2 0) 0 0 6) ((K 6).1) (ix y) (((va_cpy ((K 6).2.2.2 2) ((K 7).2.2.2 2) 0 0 6), (va_cpy ((K 6).2.2.2 4) ((K 7).2.2.2 4) 0 0 16), (va_cpy ((K 6).2.2.2 5) ((K 7).2.2.2 5) 0 0 16), ((K 6).2.2.1)), b)).2.1.1) (va_cpy ((K 6).2.2.2 3) ((K 7).2.2.2 3) 0 0 16) ((cW1 (va_cpy ((K 6).2.2.2 6) ((K 7).2.2.2 6) 0 0 16) (va_cpy ((K 6).2.2.2 7) ((K 7).2.2.2 7) 0 0 16) (va_cpy ((K 6).2.2.2 1) ((K 7).2.2.2 1) 0 0 6) (va_cpy ((K 6).2.2.2 3) ((K 7).2.2.2 3) 0 0 16) (va_cpy ((K 6).2.2.2 0) ((K 7).2.2.2 0) 0 0 6) ((K 6).1) (ix y) (((va_cpy ((K 6).2.2.2 2) ((K 7).2.2.2 2) 0 0 6), (va_cpy ((K 6).2.2.2 4) ((K 7).2.2.2 4) 0 0 16), (va_cpy ((K 6).2.2.2 5) ((K 7).2.2.2 5) 0 0 16), ((K 6).2.2.1)), b)).2.1.2.1) ((cW1 (va_cpy ((K 6).2.2.2 6) ((K 7).2.2.2 6) 0 0 16) (va_cpy ((K 6).2.2.2 7) ((K 7).2.2.2 7) 0 0 16) (va_cpy ((K 6).2.2.2 1) ((K 7).2.2.2 1) 0 0 6) (va_cpy ((K 6).2.2.2 3) ((K 7).2.2.2 3) 0 0 16) (va_cpy ((K 6).2.2.2 0) ((K 7).2.2.2 0) 0 0 6) ((K 6).1) (ix y) (((va_cpy ((K 6).2.2.2 2) ((K 7).2.2.2 2) 0 0 6), (va_cpy ((K 6).2.2.2 4) ((K 7).2.2.2 4) 0 0 16), (va_cpy ((K 6).2.2.2 5) ((K 7).2.2.2 5) 0 0 16), ((K 6).2.2.1)), b)).2.1.2.2.1) (va_cpy ((K 6).2.2.2 6) ((K 7).2.2.2 6) 0 0 16) (va_cpy ((K 6).2.2.2 7) ((K 7).2.2.2 7) 0 0 16)), ((((cW1 (va_cpy ((K 6).2.2.2 6) ((K 7).2.2.2 6) 0 0 16) (va_cpy ((K 6).2.2.2 7) ((K 7).2.2.2 7) 0 0 16) (va_cpy ((K 6).2.2.2 1) ((K 7).2.2.2 1) 0 0 6) (va_cpy ((K 6).2.2.2 3) ((K 7).2.2.2 3) 0 0 16) (va_cpy ((K 6).2.2.2 0) ((K 7).2.2.2 0) 0 0 6) ((K 6).1) (ix y) (((va_cpy ((K 6).2.2.2 2) ((K 7).2.2.2 2) 0 0 6), (va_cpy ((K 6).2.2.2 4) ((K 7).2.2.2 4) 0 0 16), (va_cpy ((K 6).2.2.2 5) ((K 7).2.2.2 5) 0 0 16), ((K 6).2.2.1)), b)).2.2).1), (((cW1 (va_cpy ((K 6).2.2.2 6) ((K 7).2.2.2 6) 0 0 16) (va_cpy ((K 6).2.2.2 7) ((K 7).2.2.2 7) 0 0 16) (va_cpy ((K 6).2.2.2 1) ((K 7).2.2.2 1) 0 0 6) (va_cpy ((K 6).2.2.2 3) ((K 7).2.2.2 3) 0 0 16) (va_cpy ((K 6).2.2.2 0) ((K 7).2.2.2 0) 0 0 6) ((K 6).1) (ix y) (((va_cpy ((K 6).2.2.2 2) ((K 7).2.2.2 2) 0 0 6), (va_cpy ((K 6).2.2.2 4) ((K 7).2.2.2 4) 0 0 16), (va_cpy ((K 6).2.2.2 5) ((K 7).2.2.2 5) 0 0 16), ((K 6).2.2.1)), b)).2.2).2.1), (((cW1 (va_cpy ((K 6).2.2.2 6) ((K 7).2.2.2 6) 0 0 16) (va_cpy ((K 6).2.2.2 7) ((K 7).2.2.2 7) 0 0 16) (va_cpy ((K 6).2.2.2 1) ((K 7).2.2.2 1) 0 0 6) (va_cpy ((K 6).2.2.2 3) ((K 7).2.2.2 3) 0 0 16) (va_cpy ((K 6).2.2.2 0) ((K 7).2.2.2 0) 0 0 6) ((K 6).1) (ix y) (((va_cpy ((K 6).2.2.2 2) ((K 7).2.2.2 2) 0 0 6), (va_cpy ((K 6).2.2.2 4) ((K 7).2.2.2 4) 0 0 16), (va_cpy ((K 6).2.2.2 5) ((K 7).2.2.2 5) 0 0 16), ((K 6).2.2.1)), b)).2.2).2.2.1), (((cW1 (va_cpy ((K 6).2.2.2 6) ((K 7).2.2.2 6) 0 0 16) (va_cpy ((K 6).2.2.2 7) ((K 7).2.2.2 7) 0 0 16) (va_cpy ((K 6).2.2.2 1) ((K 7).2.2.2 1) 0 0 6) (va_cpy ((K 6).2.2.2 3) ((K 7).2.2.2 3) 0 0 16) (va_cpy ((K 6).2.2.2 0) ((K 7).2.2.2 0) 0 0 6) ((K 6).1) (ix y) (((va_cpy ((K 6).2.2.2 2) ((K 7).2.2.2 2) 0 0 6), (va_cpy ((K 6).2.2.2 4) ((K 7).2.2.2 4) 0 0 16), (va_cpy ((K 6).2.2.2 5) ((K 7).2.2.2 5) 0 0 16), ((K 6).2.2.1)), b)).2.2).2.2.2)), n, T) M (vp_updL ou (nI 0).toNatClampNeg r_1.toInt64)) H := hP
  replace hD : va_D Af (LW cI cV cW cL a A (setK K 7 (((K 6).1), ((K 6).2.1), ((cW1 (va_cpy ((K 6).2.2.2 6) ((K 7).2.2.2 6) 0 0 16) (va_cpy ((K 6).2.2.2 7) ((K 7).2.2.2 7) 0 0 16) (va_cpy ((K 6).2.2.2 1) ((K 7).2.2.2 1) 0 0 6) (va_cpy ((K 6).2.2.2 3) ((K 7).2.2.2 3) 0 0 16) (va_cpy ((K 6).2.2.2 0) ((K 7).2.2.2 0) 0 0 6) ((K 6).1) (ix y) (((va_cpy ((K 6).2.2.2 2) ((K 7).2.2.2 2) 0 0 6), (va_cpy ((K 6).2.2.2 4) ((K 7).2.2.2 4) 0 0 16), (va_cpy ((K 6).2.2.2 5) ((K 7).2.2.2 5) 0 0 16), ((K 6).2.2.1)), b)).2.1.2.2.2), mk8 (va_cpy ((K 6).2.2.2 0) ((K 7).2.2.2 0) 0 0 6) (va_cpy ((K 6).2.2.2 1) ((K 7).2.2.2 1) 0 0 6) ((cW1 (va_cpy ((K 6).2.2.2 6) ((K 7).2.2.2 6) 0 0 16) (va_cpy ((K 6).2.2.2 7) ((K 7).2.2.2 7) 0 0 16) (va_cpy ((K 6).2.2.2 1) ((K 7).2.2.2 1) 0 0 6) (va_cpy ((K 6).2.2.2 3) ((K 7).2.2.2 3) 0 0 16) (va_cpy ((K 6).2.2.2 0) ((K 7).2.2.2 0) 0 0 6) ((K 6).1) (ix y) (((va_cpy ((K 6).2.2.2 2) ((K 7).2.2.2 2) 0 0 6), (va_cpy ((K 6).2.2.2 4) ((K 7).2.2.2 4) 0 0 16), (va_cpy ((K 6).2.2.2 5) ((K 7).2.2.2 5) 0 0 16), ((K 6).2.2.1)), b)).2.1.1) (va_cpy ((K 6).2.2.2 3) ((K 7).2.2.2 3) 0 0 16) ((cW1 (va_cpy ((K 6).2.2.2 6) ((K 7).2.2.2 6) 0 0 16) (va_cpy ((K 6).2.2.2 7) ((K 7).2.2.2 7) 0 0 16) (va_cpy ((K 6).2.2.2 1) ((K 7).2.2.2 1) 0 0 6) (va_cpy ((K 6).2.2.2 3) ((K 7).2.2.2 3) 0 0 16) (va_cpy ((K 6).2.2.2 0) ((K 7).2.2.2 0) 0 0 6) ((K 6).1) (ix y) (((va_cpy ((K 6).2.2.2 2) ((K 7).2.2.2 2) 0 0 6), (va_cpy ((K 6).2.2.2 4) ((K 7).2.2.2 4) 0 0 16), (va_cpy ((K 6).2.2.2 5) ((K 7).2.2.2 5) 0 0 16), ((K 6).2.2.1)), b)).2.1.2.1) ((cW1 (va_cpy ((K 6).2.2.2 6) ((K 7).2.2.2 6) 0 0 16) (va_cpy ((K 6).2.2.2 7) ((K 7).2.2.2 7) 0 0 16) (va_cpy ((K 6).2.2.2 1) ((K 7).2.2.2 1) 0 0 6) (va_cpy ((K 6).2.2.2 3) ((K 7).2.2.2 3) 0 0 16) (va_cpy ((K 6).2.2.2 0) ((K 7).2.2.2 0) 0 0 6) ((K 6).1) (ix y) (((va_cpy ((K 6).2.2.2 2) ((K 7).2.2.2 2) 0 0 6), (va_cpy ((K 6).2.2.2 4) ((K 7).2.2.2 4) 0 0 16), (va_cpy ((K 6).2.2.2 5) ((K 7).2.2.2 5) 0 0 16), ((K 6).2.2.1)), b)).2.1.2.2.1) (va_cpy ((K 6).2.2.2 6) ((K 7).2.2.2 6) 0 0 16) (va_cpy ((K 6).2.2.2 7) ((K 7).2.2.2 7) 0 0 16)), ((((cW1 (va_cpy ((K 6).2.2.2 6) ((K 7).2.2.2 6) 0 0 16) (va_cpy ((K 6).2.2.2 7) ((K 7).2.2.2 7) 0 0 16) (va_cpy ((K 6).2.2.2 1) ((K 7).2.2.2 1) 0 0 6) (va_cpy ((K 6).2.2.2 3) ((K 7).2.2.2 3) 0 0 16) (va_cpy ((K 6).2.2.2 0) ((K 7).2.2.2 0) 0 0 6) ((K 6).1) (ix y) (((va_cpy ((K 6).2.2.2 2) ((K 7).2.2.2 2) 0 0 6), (va_cpy ((K 6).2.2.2 4) ((K 7).2.2.2 4) 0 0 16), (va_cpy ((K 6).2.2.2 5) ((K 7).2.2.2 5) 0 0 16), ((K 6).2.2.1)), b)).2.2).1), (((cW1 (va_cpy ((K 6).2.2.2 6) ((K 7).2.2.2 6) 0 0 16) (va_cpy ((K 6).2.2.2 7) ((K 7).2.2.2 7) 0 0 16) (va_cpy ((K 6).2.2.2 1) ((K 7).2.2.2 1) 0 0 6) (va_cpy ((K 6).2.2.2 3) ((K 7).2.2.2 3) 0 0 16) (va_cpy ((K 6).2.2.2 0) ((K 7).2.2.2 0) 0 0 6) ((K 6).1) (ix y) (((va_cpy ((K 6).2.2.2 2) ((K 7).2.2.2 2) 0 0 6), (va_cpy ((K 6).2.2.2 4) ((K 7).2.2.2 4) 0 0 16), (va_cpy ((K 6).2.2.2 5) ((K 7).2.2.2 5) 0 0 16), ((K 6).2.2.1)), b)).2.2).2.1), (((cW1 (va_cpy ((K 6).2.2.2 6) ((K 7).2.2.2 6) 0 0 16) (va_cpy ((K 6).2.2.2 7) ((K 7).2.2.2 7) 0 0 16) (va_cpy ((K 6).2.2.2 1) ((K 7).2.2.2 1) 0 0 6) (va_cpy ((K 6).2.2.2 3) ((K 7).2.2.2 3) 0 0 16) (va_cpy ((K 6).2.2.2 0) ((K 7).2.2.2 0) 0 0 6) ((K 6).1) (ix y) (((va_cpy ((K 6).2.2.2 2) ((K 7).2.2.2 2) 0 0 6), (va_cpy ((K 6).2.2.2 4) ((K 7).2.2.2 4) 0 0 16), (va_cpy ((K 6).2.2.2 5) ((K 7).2.2.2 5) 0 0 16), ((K 6).2.2.1)), b)).2.2).2.2.1), (((cW1 (va_cpy ((K 6).2.2.2 6) ((K 7).2.2.2 6) 0 0 16) (va_cpy ((K 6).2.2.2 7) ((K 7).2.2.2 7) 0 0 16) (va_cpy ((K 6).2.2.2 1) ((K 7).2.2.2 1) 0 0 6) (va_cpy ((K 6).2.2.2 3) ((K 7).2.2.2 3) 0 0 16) (va_cpy ((K 6).2.2.2 0) ((K 7).2.2.2 0) 0 0 6) ((K 6).1) (ix y) (((va_cpy ((K 6).2.2.2 2) ((K 7).2.2.2 2) 0 0 6), (va_cpy ((K 6).2.2.2 4) ((K 7).2.2.2 4) 0 0 16), (va_cpy ((K 6).2.2.2 5) ((K 7).2.2.2 5) 0 0 16), ((K 6).2.2.1)), b)).2.2).2.2.2)), n, T) M (vp_updL ou (nI 0).toNatClampNeg r_1.toInt64)) := hD
  refine lv_goto (tgt := 15) hx hb dL_costAfterNight_9 (by decide) ?_
  refine lv_iconst (v := (nI 0)) hx hb dL_costAfterNight_15 (by decide) ?_
  refine W.widen (k := 1) (n := 6) (by decide) (by decide) ?_
  refine vx_ret ?_
  exact W.iret (v := (nI 0)) hx hb hr (fun t ht hW => ⟨⟨(nI 0), (A, (setK K 7 (((K 6).1), ((K 6).2.1), ((cW1 (va_cpy ((K 6).2.2.2 6) ((K 7).2.2.2 6) 0 0 16) (va_cpy ((K 6).2.2.2 7) ((K 7).2.2.2 7) 0 0 16) (va_cpy ((K 6).2.2.2 1) ((K 7).2.2.2 1) 0 0 6) (va_cpy ((K 6).2.2.2 3) ((K 7).2.2.2 3) 0 0 16) (va_cpy ((K 6).2.2.2 0) ((K 7).2.2.2 0) 0 0 6) ((K 6).1) (ix y) (((va_cpy ((K 6).2.2.2 2) ((K 7).2.2.2 2) 0 0 6), (va_cpy ((K 6).2.2.2 4) ((K 7).2.2.2 4) 0 0 16), (va_cpy ((K 6).2.2.2 5) ((K 7).2.2.2 5) 0 0 16), ((K 6).2.2.1)), b)).2.1.2.2.2), mk8 (va_cpy ((K 6).2.2.2 0) ((K 7).2.2.2 0) 0 0 6) (va_cpy ((K 6).2.2.2 1) ((K 7).2.2.2 1) 0 0 6) ((cW1 (va_cpy ((K 6).2.2.2 6) ((K 7).2.2.2 6) 0 0 16) (va_cpy ((K 6).2.2.2 7) ((K 7).2.2.2 7) 0 0 16) (va_cpy ((K 6).2.2.2 1) ((K 7).2.2.2 1) 0 0 6) (va_cpy ((K 6).2.2.2 3) ((K 7).2.2.2 3) 0 0 16) (va_cpy ((K 6).2.2.2 0) ((K 7).2.2.2 0) 0 0 6) ((K 6).1) (ix y) (((va_cpy ((K 6).2.2.2 2) ((K 7).2.2.2 2) 0 0 6), (va_cpy ((K 6).2.2.2 4) ((K 7).2.2.2 4) 0 0 16), (va_cpy ((K 6).2.2.2 5) ((K 7).2.2.2 5) 0 0 16), ((K 6).2.2.1)), b)).2.1.1) (va_cpy ((K 6).2.2.2 3) ((K 7).2.2.2 3) 0 0 16) ((cW1 (va_cpy ((K 6).2.2.2 6) ((K 7).2.2.2 6) 0 0 16) (va_cpy ((K 6).2.2.2 7) ((K 7).2.2.2 7) 0 0 16) (va_cpy ((K 6).2.2.2 1) ((K 7).2.2.2 1) 0 0 6) (va_cpy ((K 6).2.2.2 3) ((K 7).2.2.2 3) 0 0 16) (va_cpy ((K 6).2.2.2 0) ((K 7).2.2.2 0) 0 0 6) ((K 6).1) (ix y) (((va_cpy ((K 6).2.2.2 2) ((K 7).2.2.2 2) 0 0 6), (va_cpy ((K 6).2.2.2 4) ((K 7).2.2.2 4) 0 0 16), (va_cpy ((K 6).2.2.2 5) ((K 7).2.2.2 5) 0 0 16), ((K 6).2.2.1)), b)).2.1.2.1) ((cW1 (va_cpy ((K 6).2.2.2 6) ((K 7).2.2.2 6) 0 0 16) (va_cpy ((K 6).2.2.2 7) ((K 7).2.2.2 7) 0 0 16) (va_cpy ((K 6).2.2.2 1) ((K 7).2.2.2 1) 0 0 6) (va_cpy ((K 6).2.2.2 3) ((K 7).2.2.2 3) 0 0 16) (va_cpy ((K 6).2.2.2 0) ((K 7).2.2.2 0) 0 0 6) ((K 6).1) (ix y) (((va_cpy ((K 6).2.2.2 2) ((K 7).2.2.2 2) 0 0 6), (va_cpy ((K 6).2.2.2 4) ((K 7).2.2.2 4) 0 0 16), (va_cpy ((K 6).2.2.2 5) ((K 7).2.2.2 5) 0 0 16), ((K 6).2.2.1)), b)).2.1.2.2.1) (va_cpy ((K 6).2.2.2 6) ((K 7).2.2.2 6) 0 0 16) (va_cpy ((K 6).2.2.2 7) ((K 7).2.2.2 7) 0 0 16)), ((((cW1 (va_cpy ((K 6).2.2.2 6) ((K 7).2.2.2 6) 0 0 16) (va_cpy ((K 6).2.2.2 7) ((K 7).2.2.2 7) 0 0 16) (va_cpy ((K 6).2.2.2 1) ((K 7).2.2.2 1) 0 0 6) (va_cpy ((K 6).2.2.2 3) ((K 7).2.2.2 3) 0 0 16) (va_cpy ((K 6).2.2.2 0) ((K 7).2.2.2 0) 0 0 6) ((K 6).1) (ix y) (((va_cpy ((K 6).2.2.2 2) ((K 7).2.2.2 2) 0 0 6), (va_cpy ((K 6).2.2.2 4) ((K 7).2.2.2 4) 0 0 16), (va_cpy ((K 6).2.2.2 5) ((K 7).2.2.2 5) 0 0 16), ((K 6).2.2.1)), b)).2.2).1), (((cW1 (va_cpy ((K 6).2.2.2 6) ((K 7).2.2.2 6) 0 0 16) (va_cpy ((K 6).2.2.2 7) ((K 7).2.2.2 7) 0 0 16) (va_cpy ((K 6).2.2.2 1) ((K 7).2.2.2 1) 0 0 6) (va_cpy ((K 6).2.2.2 3) ((K 7).2.2.2 3) 0 0 16) (va_cpy ((K 6).2.2.2 0) ((K 7).2.2.2 0) 0 0 6) ((K 6).1) (ix y) (((va_cpy ((K 6).2.2.2 2) ((K 7).2.2.2 2) 0 0 6), (va_cpy ((K 6).2.2.2 4) ((K 7).2.2.2 4) 0 0 16), (va_cpy ((K 6).2.2.2 5) ((K 7).2.2.2 5) 0 0 16), ((K 6).2.2.1)), b)).2.2).2.1), (((cW1 (va_cpy ((K 6).2.2.2 6) ((K 7).2.2.2 6) 0 0 16) (va_cpy ((K 6).2.2.2 7) ((K 7).2.2.2 7) 0 0 16) (va_cpy ((K 6).2.2.2 1) ((K 7).2.2.2 1) 0 0 6) (va_cpy ((K 6).2.2.2 3) ((K 7).2.2.2 3) 0 0 16) (va_cpy ((K 6).2.2.2 0) ((K 7).2.2.2 0) 0 0 6) ((K 6).1) (ix y) (((va_cpy ((K 6).2.2.2 2) ((K 7).2.2.2 2) 0 0 6), (va_cpy ((K 6).2.2.2 4) ((K 7).2.2.2 4) 0 0 16), (va_cpy ((K 6).2.2.2 5) ((K 7).2.2.2 5) 0 0 16), ((K 6).2.2.1)), b)).2.2).2.2.1), (((cW1 (va_cpy ((K 6).2.2.2 6) ((K 7).2.2.2 6) 0 0 16) (va_cpy ((K 6).2.2.2 7) ((K 7).2.2.2 7) 0 0 16) (va_cpy ((K 6).2.2.2 1) ((K 7).2.2.2 1) 0 0 6) (va_cpy ((K 6).2.2.2 3) ((K 7).2.2.2 3) 0 0 16) (va_cpy ((K 6).2.2.2 0) ((K 7).2.2.2 0) 0 0 6) ((K 6).1) (ix y) (((va_cpy ((K 6).2.2.2 2) ((K 7).2.2.2 2) 0 0 6), (va_cpy ((K 6).2.2.2 4) ((K 7).2.2.2 4) 0 0 16), (va_cpy ((K 6).2.2.2 5) ((K 7).2.2.2 5) 0 0 16), ((K 6).2.2.1)), b)).2.2).2.2.2)), n, T), vp_updL ou (nI 0).toNatClampNeg r_1.toInt64), rfl, Or.inl ⟨rfl, r_1, hw_, rfl⟩, by rw [ht]; exact hP, hD⟩, hS.F ht⟩) hS.2.2 dL_costAfterNight_16
theorem hdX5_walkTo : yX5_walkTo.cls = RX5 ∧ yX5_walkTo.cls ≠ "java/lang/invoke/MethodHandle" ∧ yX5_walkTo.cls ≠ "java/lang/invoke/VarHandle" ∧ (parseMethodDescriptor yX5_walkTo.desc).map (fun d => d.parameters.length) = some 1 := by decide +kernel
set_option maxHeartbeats 4000000 in
set_option maxRecDepth 100000 in
theorem hL_walkTo (l : Launch) (dC : Nat → ClassId) (dI : Nat → Nat → Nat) (cI cV cW cL : ClassId) (wa sw : Nat) (ad aK aV : Nat → Nat) (sa : Nat → Nat) (sz : Nat) (a : Nat → Nat) (A : Nat → Nat → Nat) (hlt : l.stackTraces = false) (K : Nat → VS) (b : CS) (n : Nat) (T : TS) (M : MS) (ou : Nat → Int64) (y : Int32) (hV : VO ((K 6).2.2.2 4) ((K 6).2.2.2 5) ((K 6).1)) : Met l yL_walkTo wsL_walkTo ({ frames := 8, cells := 1, slots := 6, locals := 142 }) (pL sa wa sw ad aK aV (dC, dI) (tyL cI cV cW cL) sz [.ref (a 0), .int y, .ref (a 14)] (LW cI cV cW cL a A (K, b, n, T) M ou)) (va_Qi (fun (r_ : Int32) (w9 : HU) => (r_ = nI 0 ∧ ∃ v9 : Int32, (v9 = cWalk ((K 6).2.2.2 1) ((K 6).2.2.2 4) ((K 6).2.2.2 5) (ix y) ∧ sHas y ((K 6).1) = true) ∧ w9 = (A, (K, b, n, T), vp_updL ou (nI 0).toNatClampNeg v9.toInt64)) ∨ (((sHas y ((K 6).1) = false ∧ r_ = nI 1)) ∧ w9 = (A, (K, b, n, T), ou))) (fun (w9 : HU) t => qL (dC, dI) (va_A (LW cI cV cW cL a A (K, b, n, T) M ou) sz) (LW cI cV cW cL a w9.1 w9.2.1 M w9.2.2) t) (va_A (LW cI cV cW cL a A (K, b, n, T) M ou) sz)) 1 6 (va_A (LW cI cV cW cL a A (K, b, n, T) M ou) sz) := by
  refine met_of_vx (vx_ofWH (cc := cL_walkTo) (maxL := 4) (ret := (some .int)) (hh := [(0, 9, 12, 13)]) (by decide) rfl ?_)
  intro p e s m args below meth c s₁ B hml hv
  obtain ⟨rfl, hsz, hP, hK, hD0, hIm, hNw, hXm, hC3⟩ := hv
  have hx := B.exec
  have hb := B.bytes
  have hr := B.returns
  have hts := atoms_spec (ws := wsL_walkTo) B.pre
  have hown : s.vm.findClass RL = some m.cls := findClass_of_methodNamed B.named
  have hlocks := B.notSynchronized
  have htab := vx_table (x := yL_walkTo) B (hts _ List.mem_cons_self)
  subst hsz
  have hD := hD0.self (sz := s.heap.size)
  generalize hAe : va_A (LW cI cV cW cL a A (K, b, n, T) M ou) s.heap.size = Af at hD hIm hXm ⊢
  have hA : ∀ q : Nat, s.heap.size ≤ q → Af q := fun q h => by rw [← hAe]; exact Or.inr h
  have hS : va_S Af s.heap s.heap [] := va_S.rf
  refine w_gen hP hS (fun H locs hP hS => ?_)
  have hl := lv_entry ([.ref (a 0), .int y, .ref (a 14)]) (n := 4) (Nat.le_of_ble_eq_true rfl)
  rw [lg_entry_eq]
  generalize (lg_sl ([.ref (a 0), .int y, .ref (a 14)]) ++ List.replicate (4 - (lg_sl ([.ref (a 0), .int y, .ref (a 14)])).length) Slot.unset).toArray = ls at hl ⊢
  replace hl : lv_has ls 4 [(0, .ref (a 0)), (1, .int y), (2, .ref (a 14))] := hl
  refine lv_aload_n hx hb dL_walkTo_0 rfl (lv_at hl 2 rfl) ?_
  refine lv_iconst (v := (nI 0)) hx hb dL_walkTo_1 (by decide) ?_
  refine lv_aload_n hx hb dL_walkTo_2 rfl (lv_at hl 0 rfl) ?_
  refine lv_iload_n hx hb dL_walkTo_3 rfl (lv_at hl 1 rfl) ?_
  have hFc := freeW hD hS hA
  refine vx_calli (vx_runV (As := [.int y]) (rest := [.int (nI 0), .ref (a 14)]) ⟨hx, hb, hml, hown, hts⟩ (aX5_walkTo l dC dI cI cV cW cL wa sw ad aK aV sa H.size a A hlt K b n T M ou y hV) (cwV 1 hts gL_walkTo_X5_walkTo rfl rfl rfl hdX5_walkTo ⟨Nat.le_of_ble_eq_true rfl, Nat.le_of_ble_eq_true rfl⟩) (pL_V (A := Af) hK (imW hIm hS hFc) hNw (hXm.at hS hFc) hC3 hP hD 0 3 rfl rfl rfl) rfl rfl hl.1 rfl (lv_room (Nat.le_of_ble_eq_true rfl)) dL_walkTo_4 ⟨Nat.le_of_ble_eq_true rfl, Nat.le_of_ble_eq_true rfl⟩) hS (fun q _ h => hFc q h) hFc (fun q _ h => hFc q h) (fun E9 ce9 q9 _ t9_ H1 locs ht_ hvm_ _ hbx_ hz_ hk_ hS hce_ hcv_ hcl_ => ?_) (fun r_1 u_ t_ H1 locs ht_ hvm_ hw_ hB_ hz_ hk_ hS => ?_)
  · obtain ⟨hxc, hP1, hD1⟩ := hbx_
    rw [ht_] at hP1
    have hP := hP1
    have hD := hD1.weaken (fun _ q _ h => hFc q.1 h)
    obtain ⟨rfl, hc9⟩ := hxc
    refine vx_catch (own := RL) (name := eI) hown [] ⟨0, 9, 12, 13⟩ [] (by rw [htab]; rfl) (fun z hz => absurd hz List.not_mem_nil) (by decide) (by decide) (hts (.classLink RL 13 eI) (by decide +kernel)) (hXm.1.use _ (by decide +kernel)) hce_ hcv_ hcl_ ?_
    refine lv_astore_n (lv' := [(3, .ref q9), (0, .ref (a 0)), (1, .int y), (2, .ref (a 14))]) hx hb dL_walkTo_12 rfl hl (by decide) rfl (fun ls hl => ?_)
    refine lv_iconst (v := (nI 1)) hx hb dL_walkTo_13 (by decide) ?_
    refine W.widen (k := 1) (n := 6) (by decide) (by decide) ?_
    refine vx_ret ?_
    exact W.iret (v := (nI 1)) hx hb hr (fun t ht hW => ⟨⟨(nI 1), (A, (K, b, n, T), ou), rfl, Or.inr ⟨⟨hc9, rfl⟩, rfl⟩, by rw [ht]; exact hP, hD⟩, hS.F ht⟩) hS.2.2 dL_walkTo_14
  obtain ⟨hP1, hD1⟩ := hB_
  rw [ht_] at hP1
  have hP := hP1
  have hD := hD1.weaken (fun _ q _ h => hFc q.1 h)
  clear hP1 hD1 hFc hk_ hz_ hvm_ ht_
  generalize H1 = H at hP hS ⊢
  refine lv_i2l (v := r_1.toInt64) hx hb dL_walkTo_7 rfl ?_
  refine va_last hx hb hK hP hD hS 86 3 rfl rfl (vp_in_nI (by decide) (by decide)) dL_walkTo_8 (fun H locs hP hD hS => ?_)
  replace hP : va_P (dC, dI) vwCl (LW cI cV cW cL a A (K, b, n, T) M (vp_updL ou (nI 0).toNatClampNeg r_1.toInt64)) H := hP
  replace hD : va_D Af (LW cI cV cW cL a A (K, b, n, T) M (vp_updL ou (nI 0).toNatClampNeg r_1.toInt64)) := hD
  refine lv_goto (tgt := 15) hx hb dL_walkTo_9 (by decide) ?_
  refine lv_iconst (v := (nI 0)) hx hb dL_walkTo_15 (by decide) ?_
  refine W.widen (k := 1) (n := 6) (by decide) (by decide) ?_
  refine vx_ret ?_
  exact W.iret (v := (nI 0)) hx hb hr (fun t ht hW => ⟨⟨(nI 0), (A, (K, b, n, T), vp_updL ou (nI 0).toNatClampNeg r_1.toInt64), rfl, Or.inl ⟨rfl, r_1, hw_, rfl⟩, by rw [ht]; exact hP, hD⟩, hS.F ht⟩) hS.2.2 dL_walkTo_16
theorem hdX5_shelfFor : yX5_shelfFor.cls = RX5 ∧ yX5_shelfFor.cls ≠ "java/lang/invoke/MethodHandle" ∧ yX5_shelfFor.cls ≠ "java/lang/invoke/VarHandle" ∧ (parseMethodDescriptor yX5_shelfFor.desc).map (fun d => d.parameters.length) = some 1 := by decide +kernel
set_option maxHeartbeats 4000000 in
set_option maxRecDepth 100000 in
theorem hL_shelfFor (l : Launch) (dC : Nat → ClassId) (dI : Nat → Nat → Nat) (cI cV cW cL : ClassId) (wa sw : Nat) (ad aK aV : Nat → Nat) (sa : Nat → Nat) (sz : Nat) (a : Nat → Nat) (A : Nat → Nat → Nat) (hlt : l.stackTraces = false) (K : Nat → VS) (b : CS) (n : Nat) (T : TS) (M : MS) (ou : Nat → Int64) (y : Int32)  : Met l yL_shelfFor wsL_shelfFor ({ frames := 8, cells := 1, slots := 6, locals := 143 }) (pL sa wa sw ad aK aV (dC, dI) (tyL cI cV cW cL) sz [.ref (a 0), .int y, .ref (a 14)] (LW cI cV cW cL a A (K, b, n, T) M ou)) (va_Qi (fun (r_ : Int32) (w9 : HU) => (r_ = nI 0 ∧ ∃ v9 : Int32, (v9 = cSf ((K 6).2.2.2 0) ((K 6).2.2.2 2) ((K 6).2.2.2 1) y 6 ∧ sIn y 1 30 = true) ∧ w9 = (A, (K, b, n, T), vp_updL ou (nI 0).toNatClampNeg v9.toInt64)) ∨ (((sIn y 1 30 = false ∧ r_ = nI 1)) ∧ w9 = (A, (K, b, n, T), ou))) (fun (w9 : HU) t => qL (dC, dI) (va_A (LW cI cV cW cL a A (K, b, n, T) M ou) sz) (LW cI cV cW cL a w9.1 w9.2.1 M w9.2.2) t) (va_A (LW cI cV cW cL a A (K, b, n, T) M ou) sz)) 1 6 (va_A (LW cI cV cW cL a A (K, b, n, T) M ou) sz) := by
  refine met_of_vx (vx_ofWH (cc := cL_shelfFor) (maxL := 4) (ret := (some .int)) (hh := [(0, 9, 12, 15)]) (by decide) rfl ?_)
  intro p e s m args below meth c s₁ B hml hv
  obtain ⟨rfl, hsz, hP, hK, hD0, hIm, hNw, hXm, hC3⟩ := hv
  have hx := B.exec
  have hb := B.bytes
  have hr := B.returns
  have hts := atoms_spec (ws := wsL_shelfFor) B.pre
  have hown : s.vm.findClass RL = some m.cls := findClass_of_methodNamed B.named
  have hlocks := B.notSynchronized
  have htab := vx_table (x := yL_shelfFor) B (hts _ List.mem_cons_self)
  subst hsz
  have hD := hD0.self (sz := s.heap.size)
  generalize hAe : va_A (LW cI cV cW cL a A (K, b, n, T) M ou) s.heap.size = Af at hD hIm hXm ⊢
  have hA : ∀ q : Nat, s.heap.size ≤ q → Af q := fun q h => by rw [← hAe]; exact Or.inr h
  have hS : va_S Af s.heap s.heap [] := va_S.rf
  refine w_gen hP hS (fun H locs hP hS => ?_)
  have hl := lv_entry ([.ref (a 0), .int y, .ref (a 14)]) (n := 4) (Nat.le_of_ble_eq_true rfl)
  rw [lg_entry_eq]
  generalize (lg_sl ([.ref (a 0), .int y, .ref (a 14)]) ++ List.replicate (4 - (lg_sl ([.ref (a 0), .int y, .ref (a 14)])).length) Slot.unset).toArray = ls at hl ⊢
  replace hl : lv_has ls 4 [(0, .ref (a 0)), (1, .int y), (2, .ref (a 14))] := hl
  refine lv_aload_n hx hb dL_shelfFor_0 rfl (lv_at hl 2 rfl) ?_
  refine lv_iconst (v := (nI 0)) hx hb dL_shelfFor_1 (by decide) ?_
  refine lv_aload_n hx hb dL_shelfFor_2 rfl (lv_at hl 0 rfl) ?_
  refine lv_iload_n hx hb dL_shelfFor_3 rfl (lv_at hl 1 rfl) ?_
  have hFc := freeW hD hS hA
  refine vx_calli (vx_runV (As := [.int y]) (rest := [.int (nI 0), .ref (a 14)]) ⟨hx, hb, hml, hown, hts⟩ (aX5_shelfFor l dC dI cI cV cW cL wa sw ad aK aV sa H.size a A hlt K b n T M ou y ) (cwV 1 hts gL_shelfFor_X5_shelfFor rfl rfl rfl hdX5_shelfFor ⟨Nat.le_of_ble_eq_true rfl, Nat.le_of_ble_eq_true rfl⟩) (pL_V (A := Af) hK (imW hIm hS hFc) hNw (hXm.at hS hFc) hC3 hP hD 0 3 rfl rfl rfl) rfl rfl hl.1 rfl (lv_room (Nat.le_of_ble_eq_true rfl)) dL_shelfFor_4 ⟨Nat.le_of_ble_eq_true rfl, Nat.le_of_ble_eq_true rfl⟩) hS (fun q _ h => hFc q h) hFc (fun q _ h => hFc q h) (fun E9 ce9 q9 _ t9_ H1 locs ht_ hvm_ _ hbx_ hz_ hk_ hS hce_ hcv_ hcl_ => ?_) (fun r_1 u_ t_ H1 locs ht_ hvm_ hw_ hB_ hz_ hk_ hS => ?_)
  · obtain ⟨hxc, hP1, hD1⟩ := hbx_
    rw [ht_] at hP1
    have hP := hP1
    have hD := hD1.weaken (fun _ q _ h => hFc q.1 h)
    obtain ⟨rfl, hc9⟩ := hxc
    refine vx_catch (own := RL) (name := eA) hown [] ⟨0, 9, 12, 15⟩ [] (by rw [htab]; rfl) (fun z hz => absurd hz List.not_mem_nil) (by decide) (by decide) (hts (.classLink RL 15 eA) (by decide +kernel)) (hXm.1.use _ (by decide +kernel)) hce_ hcv_ hcl_ ?_
    refine lv_astore_n (lv' := [(3, .ref q9), (0, .ref (a 0)), (1, .int y), (2, .ref (a 14))]) hx hb dL_shelfFor_12 rfl hl (by decide) rfl (fun ls hl => ?_)
    refine lv_iconst (v := (nI 1)) hx hb dL_shelfFor_13 (by decide) ?_
    refine W.widen (k := 1) (n := 6) (by decide) (by decide) ?_
    refine vx_ret ?_
    exact W.iret (v := (nI 1)) hx hb hr (fun t ht hW => ⟨⟨(nI 1), (A, (K, b, n, T), ou), rfl, Or.inr ⟨⟨hc9, rfl⟩, rfl⟩, by rw [ht]; exact hP, hD⟩, hS.F ht⟩) hS.2.2 dL_shelfFor_14
  obtain ⟨hP1, hD1⟩ := hB_
  rw [ht_] at hP1
  have hP := hP1
  have hD := hD1.weaken (fun _ q _ h => hFc q.1 h)
  clear hP1 hD1 hFc hk_ hz_ hvm_ ht_
  generalize H1 = H at hP hS ⊢
  refine lv_i2l (v := r_1.toInt64) hx hb dL_shelfFor_7 rfl ?_
  refine va_last hx hb hK hP hD hS 86 3 rfl rfl (vp_in_nI (by decide) (by decide)) dL_shelfFor_8 (fun H locs hP hD hS => ?_)
  replace hP : va_P (dC, dI) vwCl (LW cI cV cW cL a A (K, b, n, T) M (vp_updL ou (nI 0).toNatClampNeg r_1.toInt64)) H := hP
  replace hD : va_D Af (LW cI cV cW cL a A (K, b, n, T) M (vp_updL ou (nI 0).toNatClampNeg r_1.toInt64)) := hD
  refine lv_goto (tgt := 15) hx hb dL_shelfFor_9 (by decide) ?_
  refine lv_iconst (v := (nI 0)) hx hb dL_shelfFor_15 (by decide) ?_
  refine W.widen (k := 1) (n := 6) (by decide) (by decide) ?_
  refine vx_ret ?_
  exact W.iret (v := (nI 0)) hx hb hr (fun t ht hW => ⟨⟨(nI 0), (A, (K, b, n, T), vp_updL ou (nI 0).toNatClampNeg r_1.toInt64), rfl, Or.inl ⟨rfl, r_1, hw_, rfl⟩, by rw [ht]; exact hP, hD⟩, hS.F ht⟩) hS.2.2 dL_shelfFor_16
theorem hdX5_append : yX5_append.cls = RX5 ∧ yX5_append.cls ≠ "java/lang/invoke/MethodHandle" ∧ yX5_append.cls ≠ "java/lang/invoke/VarHandle" ∧ (parseMethodDescriptor yX5_append.desc).map (fun d => d.parameters.length) = some 1 := by decide +kernel
set_option maxHeartbeats 4000000 in
set_option maxRecDepth 100000 in
theorem hL_append (l : Launch) (dC : Nat → ClassId) (dI : Nat → Nat → Nat) (cI cV cW cL : ClassId) (wa sw : Nat) (ad aK aV : Nat → Nat) (sa : Nat → Nat) (sz : Nat) (a : Nat → Nat) (A : Nat → Nat → Nat) (hlt : l.stackTraces = false) (K : Nat → VS) (b : CS) (n : Nat) (T : TS) (M : MS) (ou : Nat → Int64) (y : Int32) (hnn : T.1 ≤ 60) : Met l yL_append wsL_append ({ frames := 7, cells := 2, slots := 12, locals := 121 }) (pL sa wa sw ad aK aV (dC, dI) (tyL cI cV cW cL) sz [.ref (a 0), .int y, .ref (a 14)] (LW cI cV cW cL a A (K, b, n, T) M ou)) (va_Qi (fun (r_ : Int32) (w9 : HU) => (r_ = nI 0 ∧ ∃ v9 : Int32, (v9 = nI (T.1 + 1) ∧ cdApp T.1 y = 0) ∧ w9 = (A, (K, b, n, (T.1 + 1, T.2.1, T.2.2.1, upd T.2.2.2.1 T.1 y, T.2.2.2.2.1, T.2.2.2.2.2.1, T.2.2.2.2.2.2)), vp_updL ou (nI 0).toNatClampNeg v9.toInt64)) ∨ (((cdApp T.1 y = 1 ∧ r_ = nI 1) ∨ (cdApp T.1 y = 2 ∧ r_ = nI 2)) ∧ w9 = (A, (K, b, n, T), ou))) (fun (w9 : HU) t => qL (dC, dI) (va_A (LW cI cV cW cL a A (K, b, n, T) M ou) sz) (LW cI cV cW cL a w9.1 w9.2.1 M w9.2.2) t) (va_A (LW cI cV cW cL a A (K, b, n, T) M ou) sz)) 2 12 (va_A (LW cI cV cW cL a A (K, b, n, T) M ou) sz) := by
  refine met_of_vx (vx_ofWH (cc := cL_append) (maxL := 4) (ret := (some .int)) (hh := [(0, 9, 12, 15), (0, 9, 15, 17)]) (by decide) rfl ?_)
  intro p e s m args below meth c s₁ B hml hv
  obtain ⟨rfl, hsz, hP, hK, hD0, hIm, hNw, hXm, hC3⟩ := hv
  have hx := B.exec
  have hb := B.bytes
  have hr := B.returns
  have hts := atoms_spec (ws := wsL_append) B.pre
  have hown : s.vm.findClass RL = some m.cls := findClass_of_methodNamed B.named
  have hlocks := B.notSynchronized
  have htab := vx_table (x := yL_append) B (hts _ List.mem_cons_self)
  subst hsz
  have hD := hD0.self (sz := s.heap.size)
  generalize hAe : va_A (LW cI cV cW cL a A (K, b, n, T) M ou) s.heap.size = Af at hD hIm hXm ⊢
  have hA : ∀ q : Nat, s.heap.size ≤ q → Af q := fun q h => by rw [← hAe]; exact Or.inr h
  have hS : va_S Af s.heap s.heap [] := va_S.rf
  refine w_gen hP hS (fun H locs hP hS => ?_)
  have hl := lv_entry ([.ref (a 0), .int y, .ref (a 14)]) (n := 4) (Nat.le_of_ble_eq_true rfl)
  rw [lg_entry_eq]
  generalize (lg_sl ([.ref (a 0), .int y, .ref (a 14)]) ++ List.replicate (4 - (lg_sl ([.ref (a 0), .int y, .ref (a 14)])).length) Slot.unset).toArray = ls at hl ⊢
  replace hl : lv_has ls 4 [(0, .ref (a 0)), (1, .int y), (2, .ref (a 14))] := hl
  refine lv_aload_n hx hb dL_append_0 rfl (lv_at hl 2 rfl) ?_
  refine lv_iconst (v := (nI 0)) hx hb dL_append_1 (by decide) ?_
  refine lv_aload_n hx hb dL_append_2 rfl (lv_at hl 0 rfl) ?_
  refine lv_iload_n hx hb dL_append_3 rfl (lv_at hl 1 rfl) ?_
  have hFc := freeW hD hS hA
  refine vx_calli (vx_runV (As := [.int y]) (rest := [.int (nI 0), .ref (a 14)]) ⟨hx, hb, hml, hown, hts⟩ (aX5_append l dC dI cI cV cW cL wa sw ad aK aV sa H.size a A hlt K b n T M ou y hnn) (cwV 1 hts gL_append_X5_append rfl rfl rfl hdX5_append ⟨Nat.le_of_ble_eq_true rfl, Nat.le_of_ble_eq_true rfl⟩) (pL_V (A := Af) hK (imW hIm hS hFc) hNw (hXm.at hS hFc) hC3 hP hD 0 3 rfl rfl rfl) rfl rfl hl.1 rfl (lv_room (Nat.le_of_ble_eq_true rfl)) dL_append_4 ⟨Nat.le_of_ble_eq_true rfl, Nat.le_of_ble_eq_true rfl⟩) hS (fun q _ h => hFc q h) hFc (fun q _ h => hFc q h) (fun E9 ce9 q9 _ t9_ H1 locs ht_ hvm_ _ hbx_ hz_ hk_ hS hce_ hcv_ hcl_ => ?_) (fun r_1 u_ t_ H1 locs ht_ hvm_ hw_ hB_ hz_ hk_ hS => ?_)
  · obtain ⟨hxc, hP1, hD1⟩ := hbx_
    rw [ht_] at hP1
    have hP := hP1
    have hD := hD1.weaken (fun _ q _ h => hFc q.1 h)
    rcases hxc with hxc | hxc
    · obtain ⟨rfl, hc9⟩ := hxc
      refine vx_catch (own := RL) (name := eA) hown [] ⟨0, 9, 12, 15⟩ [⟨0, 9, 15, 17⟩] (by rw [htab]; rfl) (fun z hz => absurd hz List.not_mem_nil) (by decide) (by decide) (hts (.classLink RL 15 eA) (by decide +kernel)) (hXm.1.use _ (by decide +kernel)) hce_ hcv_ hcl_ ?_
      refine lv_astore_n (lv' := [(3, .ref q9), (0, .ref (a 0)), (1, .int y), (2, .ref (a 14))]) hx hb dL_append_12 rfl hl (by decide) rfl (fun ls hl => ?_)
      refine lv_iconst (v := (nI 1)) hx hb dL_append_13 (by decide) ?_
      refine W.widen (k := 2) (n := 12) (by decide) (by decide) ?_
      refine vx_ret ?_
      exact W.iret (v := (nI 1)) hx hb hr (fun t ht hW => ⟨⟨(nI 1), (A, (K, b, n, T), ou), rfl, Or.inr ⟨(Or.inl ⟨hc9, rfl⟩), rfl⟩, by rw [ht]; exact hP, hD⟩, hS.F ht⟩) hS.2.2 dL_append_14
    · obtain ⟨rfl, hc9⟩ := hxc
      refine vx_catch (own := RL) (name := eS) hown [⟨0, 9, 12, 15⟩] ⟨0, 9, 15, 17⟩ [] (by rw [htab]; rfl) (fun z hz => by
        simp only [List.mem_cons, List.not_mem_nil, or_false] at hz
        rcases hz with rfl
        · exact Or.inr ⟨by decide, eA, hts (.classLink RL 15 eA) (by decide +kernel), hC3.2.2⟩) (by decide) (by decide) (hts (.classLink RL 17 eS) (by decide +kernel)) (hXm.1.use _ (by decide +kernel)) hce_ hcv_ hcl_ ?_
      refine lv_astore_n (lv' := [(3, .ref q9), (0, .ref (a 0)), (1, .int y), (2, .ref (a 14))]) hx hb dL_append_15 rfl hl (by decide) rfl (fun ls hl => ?_)
      refine lv_iconst (v := (nI 2)) hx hb dL_append_16 (by decide) ?_
      refine W.widen (k := 2) (n := 12) (by decide) (by decide) ?_
      refine vx_ret ?_
      exact W.iret (v := (nI 2)) hx hb hr (fun t ht hW => ⟨⟨(nI 2), (A, (K, b, n, T), ou), rfl, Or.inr ⟨(Or.inr ⟨hc9, rfl⟩), rfl⟩, by rw [ht]; exact hP, hD⟩, hS.F ht⟩) hS.2.2 dL_append_17
  obtain ⟨hP1, hD1⟩ := hB_
  rw [ht_] at hP1
  have hP := hP1
  have hD := hD1.weaken (fun _ q _ h => hFc q.1 h)
  clear hP1 hD1 hFc hk_ hz_ hvm_ ht_
  generalize H1 = H at hP hS ⊢
  refine lv_i2l (v := r_1.toInt64) hx hb dL_append_7 rfl ?_
  refine va_last hx hb hK hP hD hS 86 3 rfl rfl (vp_in_nI (by decide) (by decide)) dL_append_8 (fun H locs hP hD hS => ?_)
  replace hP : va_P (dC, dI) vwCl (LW cI cV cW cL a A (K, b, n, (T.1 + 1, T.2.1, T.2.2.1, upd T.2.2.2.1 T.1 y, T.2.2.2.2.1, T.2.2.2.2.2.1, T.2.2.2.2.2.2)) M (vp_updL ou (nI 0).toNatClampNeg r_1.toInt64)) H := hP
  replace hD : va_D Af (LW cI cV cW cL a A (K, b, n, (T.1 + 1, T.2.1, T.2.2.1, upd T.2.2.2.1 T.1 y, T.2.2.2.2.1, T.2.2.2.2.2.1, T.2.2.2.2.2.2)) M (vp_updL ou (nI 0).toNatClampNeg r_1.toInt64)) := hD
  refine lv_goto (tgt := 18) hx hb dL_append_9 (by decide) ?_
  refine lv_iconst (v := (nI 0)) hx hb dL_append_18 (by decide) ?_
  refine W.widen (k := 2) (n := 12) (by decide) (by decide) ?_
  refine vx_ret ?_
  exact W.iret (v := (nI 0)) hx hb hr (fun t ht hW => ⟨⟨(nI 0), (A, (K, b, n, (T.1 + 1, T.2.1, T.2.2.1, upd T.2.2.2.1 T.1 y, T.2.2.2.2.1, T.2.2.2.2.2.1, T.2.2.2.2.2.2)), vp_updL ou (nI 0).toNatClampNeg r_1.toInt64), rfl, Or.inl ⟨rfl, r_1, hw_, rfl⟩, by rw [ht]; exact hP, hD⟩, hS.F ht⟩) hS.2.2 dL_append_19
theorem hdX5_run : yX5_run.cls = RX5 ∧ yX5_run.cls ≠ "java/lang/invoke/MethodHandle" ∧ yX5_run.cls ≠ "java/lang/invoke/VarHandle" ∧ (parseMethodDescriptor yX5_run.desc).map (fun d => d.parameters.length) = some 0 := by decide +kernel
set_option maxHeartbeats 4000000 in
set_option maxRecDepth 100000 in
theorem hL_run (l : Launch) (dC : Nat → ClassId) (dI : Nat → Nat → Nat) (cI cV cW cL : ClassId) (wa sw : Nat) (ad aK aV : Nat → Nat) (sa : Nat → Nat) (sz : Nat) (a : Nat → Nat) (A : Nat → Nat → Nat) (hlt : l.stackTraces = false) (K : Nat → VS) (b : CS) (n : Nat) (T : TS) (M : MS) (ou : Nat → Int64) (wI : Nat → Nat) (hV : VO ((K 6).2.2.2 4) ((K 6).2.2.2 5) ((K 6).1)) (hnn : T.1 ≤ 60) (hod : (cLp ad T.2.2.2.1 T.1 60 0 ((true, 0), T.2.2.2.2.1, T.2.2.2.2.2.1, T.2.2.2.2.2.2)).2 ≤ 60) (hwI : (cLp ad T.2.2.2.1 T.1 60 0 ((true, 0), T.2.2.2.2.1, T.2.2.2.2.2.1, T.2.2.2.2.2.2)).1.1.1 = true → ∀ i, i < (cLp ad T.2.2.2.1 T.1 60 0 ((true, 0), T.2.2.2.2.1, T.2.2.2.2.2.1, T.2.2.2.2.2.2)).2 → OrW ad wI (cLp ad T.2.2.2.1 T.1 60 0 ((true, 0), T.2.2.2.2.1, T.2.2.2.2.2.1, T.2.2.2.2.2.2)).1 i) (hn6 : n ≤ 6) : Met l yL_run (fI wsL_run) ({ frames := 9, cells := 1, slots := 6, locals := 195 }) (pL sa wa sw ad aK aV (dC, dI) (tyL cI cV cW cL) sz [.ref (a 0), .ref (a 14)] (LW cI cV cW cL a A (K, b, n, T) M ou)) (va_Qi (fun (r_ : Int32) (w9 : HU) => (r_ = nI 0 ∧ ∃ v9 : Int32, (v9 = nI (cRn ((K 6).2.2.2 0) ((K 6).2.2.2 1) wI (cLp ad T.2.2.2.1 T.1 60 0 ((true, 0), T.2.2.2.2.1, T.2.2.2.2.2.1, T.2.2.2.2.2.2)).1.2.2.1 (cLp ad T.2.2.2.1 T.1 60 0 ((true, 0), T.2.2.2.2.1, T.2.2.2.2.2.1, T.2.2.2.2.2.2)).1.2.2.2 (cLp ad T.2.2.2.1 T.1 60 0 ((true, 0), T.2.2.2.2.1, T.2.2.2.2.2.1, T.2.2.2.2.2.2)).2 0 ((((K 6).2.2.2 2), ((K 6).2.2.2 4), ((K 6).2.2.2 5), ((K 6).2.2.1)), (((K 6).2.2.2 3), ((K 6).2.2.2 6), ((K 6).2.2.2 7)), ((K 6).1), ((K 6).2.1), b)).1 ∧ (cLp ad T.2.2.2.1 T.1 60 0 ((true, 0), T.2.2.2.2.1, T.2.2.2.2.2.1, T.2.2.2.2.2.2)).1.1.1 = true) ∧ w9 = ((svA n A), (setK (svK n K) 6 (((cRn ((K 6).2.2.2 0) ((K 6).2.2.2 1) wI (cLp ad T.2.2.2.1 T.1 60 0 ((true, 0), T.2.2.2.2.1, T.2.2.2.2.2.1, T.2.2.2.2.2.2)).1.2.2.1 (cLp ad T.2.2.2.1 T.1 60 0 ((true, 0), T.2.2.2.2.1, T.2.2.2.2.2.1, T.2.2.2.2.2.2)).1.2.2.2 (cLp ad T.2.2.2.1 T.1 60 0 ((true, 0), T.2.2.2.2.1, T.2.2.2.2.2.1, T.2.2.2.2.2.2)).2 0 ((((K 6).2.2.2 2), ((K 6).2.2.2 4), ((K 6).2.2.2 5), ((K 6).2.2.1)), (((K 6).2.2.2 3), ((K 6).2.2.2 6), ((K 6).2.2.2 7)), ((K 6).1), ((K 6).2.1), b)).2).2.2.1, (((cRn ((K 6).2.2.2 0) ((K 6).2.2.2 1) wI (cLp ad T.2.2.2.1 T.1 60 0 ((true, 0), T.2.2.2.2.1, T.2.2.2.2.2.1, T.2.2.2.2.2.2)).1.2.2.1 (cLp ad T.2.2.2.1 T.1 60 0 ((true, 0), T.2.2.2.2.1, T.2.2.2.2.2.1, T.2.2.2.2.2.2)).1.2.2.2 (cLp ad T.2.2.2.1 T.1 60 0 ((true, 0), T.2.2.2.2.1, T.2.2.2.2.2.1, T.2.2.2.2.2.2)).2 0 ((((K 6).2.2.2 2), ((K 6).2.2.2 4), ((K 6).2.2.2 5), ((K 6).2.2.1)), (((K 6).2.2.2 3), ((K 6).2.2.2 6), ((K 6).2.2.2 7)), ((K 6).1), ((K 6).2.1), b)).2).2.2.2.1), (((cRn ((K 6).2.2.2 0) ((K 6).2.2.2 1) wI (cLp ad T.2.2.2.1 T.1 60 0 ((true, 0), T.2.2.2.2.1, T.2.2.2.2.2.1, T.2.2.2.2.2.2)).1.2.2.1 (cLp ad T.2.2.2.1 T.1 60 0 ((true, 0), T.2.2.2.2.1, T.2.2.2.2.2.1, T.2.2.2.2.2.2)).1.2.2.2 (cLp ad T.2.2.2.1 T.1 60 0 ((true, 0), T.2.2.2.2.1, T.2.2.2.2.2.1, T.2.2.2.2.2.2)).2 0 ((((K 6).2.2.2 2), ((K 6).2.2.2 4), ((K 6).2.2.2 5), ((K 6).2.2.1)), (((K 6).2.2.2 3), ((K 6).2.2.2 6), ((K 6).2.2.2 7)), ((K 6).1), ((K 6).2.1), b)).2).1.2.2.2), mk8 ((K 6).2.2.2 0) ((K 6).2.2.2 1) (((cRn ((K 6).2.2.2 0) ((K 6).2.2.2 1) wI (cLp ad T.2.2.2.1 T.1 60 0 ((true, 0), T.2.2.2.2.1, T.2.2.2.2.2.1, T.2.2.2.2.2.2)).1.2.2.1 (cLp ad T.2.2.2.1 T.1 60 0 ((true, 0), T.2.2.2.2.1, T.2.2.2.2.2.1, T.2.2.2.2.2.2)).1.2.2.2 (cLp ad T.2.2.2.1 T.1 60 0 ((true, 0), T.2.2.2.2.1, T.2.2.2.2.2.1, T.2.2.2.2.2.2)).2 0 ((((K 6).2.2.2 2), ((K 6).2.2.2 4), ((K 6).2.2.2 5), ((K 6).2.2.1)), (((K 6).2.2.2 3), ((K 6).2.2.2 6), ((K 6).2.2.2 7)), ((K 6).1), ((K 6).2.1), b)).2).1.1) (((cRn ((K 6).2.2.2 0) ((K 6).2.2.2 1) wI (cLp ad T.2.2.2.1 T.1 60 0 ((true, 0), T.2.2.2.2.1, T.2.2.2.2.2.1, T.2.2.2.2.2.2)).1.2.2.1 (cLp ad T.2.2.2.1 T.1 60 0 ((true, 0), T.2.2.2.2.1, T.2.2.2.2.2.1, T.2.2.2.2.2.2)).1.2.2.2 (cLp ad T.2.2.2.1 T.1 60 0 ((true, 0), T.2.2.2.2.1, T.2.2.2.2.2.1, T.2.2.2.2.2.2)).2 0 ((((K 6).2.2.2 2), ((K 6).2.2.2 4), ((K 6).2.2.2 5), ((K 6).2.2.1)), (((K 6).2.2.2 3), ((K 6).2.2.2 6), ((K 6).2.2.2 7)), ((K 6).1), ((K 6).2.1), b)).2).2.1.1) (((cRn ((K 6).2.2.2 0) ((K 6).2.2.2 1) wI (cLp ad T.2.2.2.1 T.1 60 0 ((true, 0), T.2.2.2.2.1, T.2.2.2.2.2.1, T.2.2.2.2.2.2)).1.2.2.1 (cLp ad T.2.2.2.1 T.1 60 0 ((true, 0), T.2.2.2.2.1, T.2.2.2.2.2.1, T.2.2.2.2.2.2)).1.2.2.2 (cLp ad T.2.2.2.1 T.1 60 0 ((true, 0), T.2.2.2.2.1, T.2.2.2.2.2.1, T.2.2.2.2.2.2)).2 0 ((((K 6).2.2.2 2), ((K 6).2.2.2 4), ((K 6).2.2.2 5), ((K 6).2.2.1)), (((K 6).2.2.2 3), ((K 6).2.2.2 6), ((K 6).2.2.2 7)), ((K 6).1), ((K 6).2.1), b)).2).1.2.1) (((cRn ((K 6).2.2.2 0) ((K 6).2.2.2 1) wI (cLp ad T.2.2.2.1 T.1 60 0 ((true, 0), T.2.2.2.2.1, T.2.2.2.2.2.1, T.2.2.2.2.2.2)).1.2.2.1 (cLp ad T.2.2.2.1 T.1 60 0 ((true, 0), T.2.2.2.2.1, T.2.2.2.2.2.1, T.2.2.2.2.2.2)).1.2.2.2 (cLp ad T.2.2.2.1 T.1 60 0 ((true, 0), T.2.2.2.2.1, T.2.2.2.2.2.1, T.2.2.2.2.2.2)).2 0 ((((K 6).2.2.2 2), ((K 6).2.2.2 4), ((K 6).2.2.2 5), ((K 6).2.2.1)), (((K 6).2.2.2 3), ((K 6).2.2.2 6), ((K 6).2.2.2 7)), ((K 6).1), ((K 6).2.1), b)).2).1.2.2.1) (((cRn ((K 6).2.2.2 0) ((K 6).2.2.2 1) wI (cLp ad T.2.2.2.1 T.1 60 0 ((true, 0), T.2.2.2.2.1, T.2.2.2.2.2.1, T.2.2.2.2.2.2)).1.2.2.1 (cLp ad T.2.2.2.1 T.1 60 0 ((true, 0), T.2.2.2.2.1, T.2.2.2.2.2.1, T.2.2.2.2.2.2)).1.2.2.2 (cLp ad T.2.2.2.1 T.1 60 0 ((true, 0), T.2.2.2.2.1, T.2.2.2.2.2.1, T.2.2.2.2.2.2)).2 0 ((((K 6).2.2.2 2), ((K 6).2.2.2 4), ((K 6).2.2.2 5), ((K 6).2.2.1)), (((K 6).2.2.2 3), ((K 6).2.2.2 6), ((K 6).2.2.2 7)), ((K 6).1), ((K 6).2.1), b)).2).2.1.2.1) (((cRn ((K 6).2.2.2 0) ((K 6).2.2.2 1) wI (cLp ad T.2.2.2.1 T.1 60 0 ((true, 0), T.2.2.2.2.1, T.2.2.2.2.2.1, T.2.2.2.2.2.2)).1.2.2.1 (cLp ad T.2.2.2.1 T.1 60 0 ((true, 0), T.2.2.2.2.1, T.2.2.2.2.2.1, T.2.2.2.2.2.2)).1.2.2.2 (cLp ad T.2.2.2.1 T.1 60 0 ((true, 0), T.2.2.2.2.1, T.2.2.2.2.2.1, T.2.2.2.2.2.2)).2 0 ((((K 6).2.2.2 2), ((K 6).2.2.2 4), ((K 6).2.2.2 5), ((K 6).2.2.1)), (((K 6).2.2.2 3), ((K 6).2.2.2 6), ((K 6).2.2.2 7)), ((K 6).1), ((K 6).2.1), b)).2).2.1.2.2)), ((((cRn ((K 6).2.2.2 0) ((K 6).2.2.2 1) wI (cLp ad T.2.2.2.1 T.1 60 0 ((true, 0), T.2.2.2.2.1, T.2.2.2.2.2.1, T.2.2.2.2.2.2)).1.2.2.1 (cLp ad T.2.2.2.1 T.1 60 0 ((true, 0), T.2.2.2.2.1, T.2.2.2.2.2.1, T.2.2.2.2.2.2)).1.2.2.2 (cLp ad T.2.2.2.1 T.1 60 0 ((true, 0), T.2.2.2.2.1, T.2.2.2.2.2.1, T.2.2.2.2.2.2)).2 0 ((((K 6).2.2.2 2), ((K 6).2.2.2 4), ((K 6).2.2.2 5), ((K 6).2.2.1)), (((K 6).2.2.2 3), ((K 6).2.2.2 6), ((K 6).2.2.2 7)), ((K 6).1), ((K 6).2.1), b)).2.2.2.2.2).1), (((cRn ((K 6).2.2.2 0) ((K 6).2.2.2 1) wI (cLp ad T.2.2.2.1 T.1 60 0 ((true, 0), T.2.2.2.2.1, T.2.2.2.2.2.1, T.2.2.2.2.2.2)).1.2.2.1 (cLp ad T.2.2.2.1 T.1 60 0 ((true, 0), T.2.2.2.2.1, T.2.2.2.2.2.1, T.2.2.2.2.2.2)).1.2.2.2 (cLp ad T.2.2.2.1 T.1 60 0 ((true, 0), T.2.2.2.2.1, T.2.2.2.2.2.1, T.2.2.2.2.2.2)).2 0 ((((K 6).2.2.2 2), ((K 6).2.2.2 4), ((K 6).2.2.2 5), ((K 6).2.2.1)), (((K 6).2.2.2 3), ((K 6).2.2.2 6), ((K 6).2.2.2 7)), ((K 6).1), ((K 6).2.1), b)).2.2.2.2.2).2.1), (((cRn ((K 6).2.2.2 0) ((K 6).2.2.2 1) wI (cLp ad T.2.2.2.1 T.1 60 0 ((true, 0), T.2.2.2.2.1, T.2.2.2.2.2.1, T.2.2.2.2.2.2)).1.2.2.1 (cLp ad T.2.2.2.1 T.1 60 0 ((true, 0), T.2.2.2.2.1, T.2.2.2.2.2.1, T.2.2.2.2.2.2)).1.2.2.2 (cLp ad T.2.2.2.1 T.1 60 0 ((true, 0), T.2.2.2.2.1, T.2.2.2.2.2.1, T.2.2.2.2.2.2)).2 0 ((((K 6).2.2.2 2), ((K 6).2.2.2 4), ((K 6).2.2.2 5), ((K 6).2.2.1)), (((K 6).2.2.2 3), ((K 6).2.2.2 6), ((K 6).2.2.2 7)), ((K 6).1), ((K 6).2.1), b)).2.2.2.2.2).2.2.1), (((cRn ((K 6).2.2.2 0) ((K 6).2.2.2 1) wI (cLp ad T.2.2.2.1 T.1 60 0 ((true, 0), T.2.2.2.2.1, T.2.2.2.2.2.1, T.2.2.2.2.2.2)).1.2.2.1 (cLp ad T.2.2.2.1 T.1 60 0 ((true, 0), T.2.2.2.2.1, T.2.2.2.2.2.1, T.2.2.2.2.2.2)).1.2.2.2 (cLp ad T.2.2.2.1 T.1 60 0 ((true, 0), T.2.2.2.2.1, T.2.2.2.2.2.1, T.2.2.2.2.2.2)).2 0 ((((K 6).2.2.2 2), ((K 6).2.2.2 4), ((K 6).2.2.2 5), ((K 6).2.2.1)), (((K 6).2.2.2 3), ((K 6).2.2.2 6), ((K 6).2.2.2 7)), ((K 6).1), ((K 6).2.1), b)).2.2.2.2.2).2.2.2)), svN n, (0, (nI ((cLp ad T.2.2.2.1 T.1 60 0 ((true, 0), T.2.2.2.2.1, T.2.2.2.2.2.1, T.2.2.2.2.2.2)).2)), (nI ((cLp ad T.2.2.2.1 T.1 60 0 ((true, 0), T.2.2.2.2.1, T.2.2.2.2.2.1, T.2.2.2.2.2.2)).1.1.2)), T.2.2.2.1, (cLp ad T.2.2.2.1 T.1 60 0 ((true, 0), T.2.2.2.2.1, T.2.2.2.2.2.1, T.2.2.2.2.2.2)).1.2.1, (cLp ad T.2.2.2.1 T.1 60 0 ((true, 0), T.2.2.2.2.1, T.2.2.2.2.2.1, T.2.2.2.2.2.2)).1.2.2.1, (cLp ad T.2.2.2.1 T.1 60 0 ((true, 0), T.2.2.2.2.1, T.2.2.2.2.2.1, T.2.2.2.2.2.2)).1.2.2.2)), vp_updL ou (nI 0).toNatClampNeg v9.toInt64)) ∨ ((((cLp ad T.2.2.2.1 T.1 60 0 ((true, 0), T.2.2.2.2.1, T.2.2.2.2.2.1, T.2.2.2.2.2.2)).1.1.1 = false ∧ r_ = nI 1)) ∧ w9 = (A, (K, b, n, (T.1, (nI ((cLp ad T.2.2.2.1 T.1 60 0 ((true, 0), T.2.2.2.2.1, T.2.2.2.2.2.1, T.2.2.2.2.2.2)).2)), (nI ((cLp ad T.2.2.2.1 T.1 60 0 ((true, 0), T.2.2.2.2.1, T.2.2.2.2.2.1, T.2.2.2.2.2.2)).1.1.2)), T.2.2.2.1, (cLp ad T.2.2.2.1 T.1 60 0 ((true, 0), T.2.2.2.2.1, T.2.2.2.2.2.1, T.2.2.2.2.2.2)).1.2.1, (cLp ad T.2.2.2.1 T.1 60 0 ((true, 0), T.2.2.2.2.1, T.2.2.2.2.2.1, T.2.2.2.2.2.2)).1.2.2.1, (cLp ad T.2.2.2.1 T.1 60 0 ((true, 0), T.2.2.2.2.1, T.2.2.2.2.2.1, T.2.2.2.2.2.2)).1.2.2.2)), ou))) (fun (w9 : HU) t => qL (dC, dI) (va_A (LW cI cV cW cL a A (K, b, n, T) M ou) sz) (LW cI cV cW cL a w9.1 w9.2.1 M w9.2.2) t) (va_A (LW cI cV cW cL a A (K, b, n, T) M ou) sz)) 1 6 (va_A (LW cI cV cW cL a A (K, b, n, T) M ou) sz) := by
  refine met_of_vx (vx_ofWH (cc := cL_run) (maxL := 3) (ret := (some .int)) (hh := [(0, 8, 11, 15)]) (by decide) rfl ?_)
  intro p e s m args below meth c s₁ B hml hv
  obtain ⟨rfl, hsz, hP, hK, hD0, hIm, hNw, hXm, hC3⟩ := hv
  have hx := B.exec
  have hb := B.bytes
  have hr := B.returns
  have hts := atoms_spec (ws := (fI wsL_run)) B.pre
  have hown : s.vm.findClass RL = some m.cls := findClass_of_methodNamed B.named
  have hlocks := B.notSynchronized
  have htab := vx_table (x := yL_run) B (hts _ List.mem_cons_self)
  subst hsz
  have hD := hD0.self (sz := s.heap.size)
  generalize hAe : va_A (LW cI cV cW cL a A (K, b, n, T) M ou) s.heap.size = Af at hD hIm hXm ⊢
  have hA : ∀ q : Nat, s.heap.size ≤ q → Af q := fun q h => by rw [← hAe]; exact Or.inr h
  have hS : va_S Af s.heap s.heap [] := va_S.rf
  refine w_gen hP hS (fun H locs hP hS => ?_)
  have hl := lv_entry ([.ref (a 0), .ref (a 14)]) (n := 3) (Nat.le_of_ble_eq_true rfl)
  rw [lg_entry_eq]
  generalize (lg_sl ([.ref (a 0), .ref (a 14)]) ++ List.replicate (3 - (lg_sl ([.ref (a 0), .ref (a 14)])).length) Slot.unset).toArray = ls at hl ⊢
  replace hl : lv_has ls 3 [(0, .ref (a 0)), (1, .ref (a 14))] := hl
  refine lv_aload_n hx hb dL_run_0 rfl (lv_at hl 1 rfl) ?_
  refine lv_iconst (v := (nI 0)) hx hb dL_run_1 (by decide) ?_
  refine lv_aload_n hx hb dL_run_2 rfl (lv_at hl 0 rfl) ?_
  have hFc := freeW hD hS hA
  refine vx_calli (vx_runV (As := []) (rest := [.int (nI 0), .ref (a 14)]) ⟨hx, hb, hml, hown, hts⟩ (bX5_run l dC dI cI cV cW cL wa sw ad aK aV sa H.size a A hlt K b n T M ou wI hV hnn hod hwI hn6) (cwV 0 hts (gFV gL_run_X5_run rfl) rfl rfl rfl hdX5_run ⟨Nat.le_of_ble_eq_true rfl, Nat.le_of_ble_eq_true rfl⟩) (pL_V (A := Af) hK (imW hIm hS hFc) hNw (hXm.at hS hFc) hC3 hP hD 0 3 rfl rfl rfl) rfl rfl hl.1 rfl (lv_room (Nat.le_of_ble_eq_true rfl)) dL_run_3 ⟨Nat.le_of_ble_eq_true rfl, Nat.le_of_ble_eq_true rfl⟩) hS (fun q _ h => hFc q h) hFc (fun q _ h => hFc q h) (fun E9 ce9 q9 _ t9_ H1 locs ht_ hvm_ _ hbx_ hz_ hk_ hS hce_ hcv_ hcl_ => ?_) (fun r_1 u_ t_ H1 locs ht_ hvm_ hw_ hB_ hz_ hk_ hS => ?_)
  · obtain ⟨hxc, hP1, hD1⟩ := hbx_
    rw [ht_] at hP1
    have hP := hP1
    have hD := hD1.weaken (fun _ q _ h => hFc q.1 h)
    obtain ⟨rfl, hc9⟩ := hxc
    refine vx_catch (own := RL) (name := eA) hown [] ⟨0, 8, 11, 15⟩ [] (by rw [htab]; rfl) (fun z hz => absurd hz List.not_mem_nil) (by decide) (by decide) (hts (.classLink RL 15 eA) (by decide +kernel)) (hXm.1.use _ (by decide +kernel)) hce_ hcv_ hcl_ ?_
    refine lv_astore_n (lv' := [(2, .ref q9), (0, .ref (a 0)), (1, .ref (a 14))]) hx hb dL_run_11 rfl hl (by decide) rfl (fun ls hl => ?_)
    refine lv_iconst (v := (nI 1)) hx hb dL_run_12 (by decide) ?_
    refine W.widen (k := 1) (n := 6) (by decide) (by decide) ?_
    refine vx_ret ?_
    exact W.iret (v := (nI 1)) hx hb hr (fun t ht hW => ⟨⟨(nI 1), (A, (K, b, n, (T.1, (nI ((cLp ad T.2.2.2.1 T.1 60 0 ((true, 0), T.2.2.2.2.1, T.2.2.2.2.2.1, T.2.2.2.2.2.2)).2)), (nI ((cLp ad T.2.2.2.1 T.1 60 0 ((true, 0), T.2.2.2.2.1, T.2.2.2.2.2.1, T.2.2.2.2.2.2)).1.1.2)), T.2.2.2.1, (cLp ad T.2.2.2.1 T.1 60 0 ((true, 0), T.2.2.2.2.1, T.2.2.2.2.2.1, T.2.2.2.2.2.2)).1.2.1, (cLp ad T.2.2.2.1 T.1 60 0 ((true, 0), T.2.2.2.2.1, T.2.2.2.2.2.1, T.2.2.2.2.2.2)).1.2.2.1, (cLp ad T.2.2.2.1 T.1 60 0 ((true, 0), T.2.2.2.2.1, T.2.2.2.2.2.1, T.2.2.2.2.2.2)).1.2.2.2)), ou), rfl, Or.inr ⟨⟨hc9, rfl⟩, rfl⟩, by rw [ht]; exact hP, hD⟩, hS.F ht⟩) hS.2.2 dL_run_13
  obtain ⟨hP1, hD1⟩ := hB_
  rw [ht_] at hP1
  have hP := hP1
  have hD := hD1.weaken (fun _ q _ h => hFc q.1 h)
  clear hP1 hD1 hFc hk_ hz_ hvm_ ht_
  generalize H1 = H at hP hS ⊢
  refine lv_i2l (v := r_1.toInt64) hx hb dL_run_6 rfl ?_
  refine va_last hx hb hK hP hD hS 86 3 rfl rfl (vp_in_nI (by decide) (by decide)) dL_run_7 (fun H locs hP hD hS => ?_)
  replace hP : va_P (dC, dI) vwCl (LW cI cV cW cL a (svA n A) (setK (svK n K) 6 (((cRn ((K 6).2.2.2 0) ((K 6).2.2.2 1) wI (cLp ad T.2.2.2.1 T.1 60 0 ((true, 0), T.2.2.2.2.1, T.2.2.2.2.2.1, T.2.2.2.2.2.2)).1.2.2.1 (cLp ad T.2.2.2.1 T.1 60 0 ((true, 0), T.2.2.2.2.1, T.2.2.2.2.2.1, T.2.2.2.2.2.2)).1.2.2.2 (cLp ad T.2.2.2.1 T.1 60 0 ((true, 0), T.2.2.2.2.1, T.2.2.2.2.2.1, T.2.2.2.2.2.2)).2 0 ((((K 6).2.2.2 2), ((K 6).2.2.2 4), ((K 6).2.2.2 5), ((K 6).2.2.1)), (((K 6).2.2.2 3), ((K 6).2.2.2 6), ((K 6).2.2.2 7)), ((K 6).1), ((K 6).2.1), b)).2).2.2.1, (((cRn ((K 6).2.2.2 0) ((K 6).2.2.2 1) wI (cLp ad T.2.2.2.1 T.1 60 0 ((true, 0), T.2.2.2.2.1, T.2.2.2.2.2.1, T.2.2.2.2.2.2)).1.2.2.1 (cLp ad T.2.2.2.1 T.1 60 0 ((true, 0), T.2.2.2.2.1, T.2.2.2.2.2.1, T.2.2.2.2.2.2)).1.2.2.2 (cLp ad T.2.2.2.1 T.1 60 0 ((true, 0), T.2.2.2.2.1, T.2.2.2.2.2.1, T.2.2.2.2.2.2)).2 0 ((((K 6).2.2.2 2), ((K 6).2.2.2 4), ((K 6).2.2.2 5), ((K 6).2.2.1)), (((K 6).2.2.2 3), ((K 6).2.2.2 6), ((K 6).2.2.2 7)), ((K 6).1), ((K 6).2.1), b)).2).2.2.2.1), (((cRn ((K 6).2.2.2 0) ((K 6).2.2.2 1) wI (cLp ad T.2.2.2.1 T.1 60 0 ((true, 0), T.2.2.2.2.1, T.2.2.2.2.2.1, T.2.2.2.2.2.2)).1.2.2.1 (cLp ad T.2.2.2.1 T.1 60 0 ((true, 0), T.2.2.2.2.1, T.2.2.2.2.2.1, T.2.2.2.2.2.2)).1.2.2.2 (cLp ad T.2.2.2.1 T.1 60 0 ((true, 0), T.2.2.2.2.1, T.2.2.2.2.2.1, T.2.2.2.2.2.2)).2 0 ((((K 6).2.2.2 2), ((K 6).2.2.2 4), ((K 6).2.2.2 5), ((K 6).2.2.1)), (((K 6).2.2.2 3), ((K 6).2.2.2 6), ((K 6).2.2.2 7)), ((K 6).1), ((K 6).2.1), b)).2).1.2.2.2), mk8 ((K 6).2.2.2 0) ((K 6).2.2.2 1) (((cRn ((K 6).2.2.2 0) ((K 6).2.2.2 1) wI (cLp ad T.2.2.2.1 T.1 60 0 ((true, 0), T.2.2.2.2.1, T.2.2.2.2.2.1, T.2.2.2.2.2.2)).1.2.2.1 (cLp ad T.2.2.2.1 T.1 60 0 ((true, 0), T.2.2.2.2.1, T.2.2.2.2.2.1, T.2.2.2.2.2.2)).1.2.2.2 (cLp ad T.2.2.2.1 T.1 60 0 ((true, 0), T.2.2.2.2.1, T.2.2.2.2.2.1, T.2.2.2.2.2.2)).2 0 ((((K 6).2.2.2 2), ((K 6).2.2.2 4), ((K 6).2.2.2 5), ((K 6).2.2.1)), (((K 6).2.2.2 3), ((K 6).2.2.2 6), ((K 6).2.2.2 7)), ((K 6).1), ((K 6).2.1), b)).2).1.1) (((cRn ((K 6).2.2.2 0) ((K 6).2.2.2 1) wI (cLp ad T.2.2.2.1 T.1 60 0 ((true, 0), T.2.2.2.2.1, T.2.2.2.2.2.1, T.2.2.2.2.2.2)).1.2.2.1 (cLp ad T.2.2.2.1 T.1 60 0 ((true, 0), T.2.2.2.2.1, T.2.2.2.2.2.1, T.2.2.2.2.2.2)).1.2.2.2 (cLp ad T.2.2.2.1 T.1 60 0 ((true, 0), T.2.2.2.2.1, T.2.2.2.2.2.1, T.2.2.2.2.2.2)).2 0 ((((K 6).2.2.2 2), ((K 6).2.2.2 4), ((K 6).2.2.2 5), ((K 6).2.2.1)), (((K 6).2.2.2 3), ((K 6).2.2.2 6), ((K 6).2.2.2 7)), ((K 6).1), ((K 6).2.1), b)).2).2.1.1) (((cRn ((K 6).2.2.2 0) ((K 6).2.2.2 1) wI (cLp ad T.2.2.2.1 T.1 60 0 ((true, 0), T.2.2.2.2.1, T.2.2.2.2.2.1, T.2.2.2.2.2.2)).1.2.2.1 (cLp ad T.2.2.2.1 T.1 60 0 ((true, 0), T.2.2.2.2.1, T.2.2.2.2.2.1, T.2.2.2.2.2.2)).1.2.2.2 (cLp ad T.2.2.2.1 T.1 60 0 ((true, 0), T.2.2.2.2.1, T.2.2.2.2.2.1, T.2.2.2.2.2.2)).2 0 ((((K 6).2.2.2 2), ((K 6).2.2.2 4), ((K 6).2.2.2 5), ((K 6).2.2.1)), (((K 6).2.2.2 3), ((K 6).2.2.2 6), ((K 6).2.2.2 7)), ((K 6).1), ((K 6).2.1), b)).2).1.2.1) (((cRn ((K 6).2.2.2 0) ((K 6).2.2.2 1) wI (cLp ad T.2.2.2.1 T.1 60 0 ((true, 0), T.2.2.2.2.1, T.2.2.2.2.2.1, T.2.2.2.2.2.2)).1.2.2.1 (cLp ad T.2.2.2.1 T.1 60 0 ((true, 0), T.2.2.2.2.1, T.2.2.2.2.2.1, T.2.2.2.2.2.2)).1.2.2.2 (cLp ad T.2.2.2.1 T.1 60 0 ((true, 0), T.2.2.2.2.1, T.2.2.2.2.2.1, T.2.2.2.2.2.2)).2 0 ((((K 6).2.2.2 2), ((K 6).2.2.2 4), ((K 6).2.2.2 5), ((K 6).2.2.1)), (((K 6).2.2.2 3), ((K 6).2.2.2 6), ((K 6).2.2.2 7)), ((K 6).1), ((K 6).2.1), b)).2).1.2.2.1) (((cRn ((K 6).2.2.2 0) ((K 6).2.2.2 1) wI (cLp ad T.2.2.2.1 T.1 60 0 ((true, 0), T.2.2.2.2.1, T.2.2.2.2.2.1, T.2.2.2.2.2.2)).1.2.2.1 (cLp ad T.2.2.2.1 T.1 60 0 ((true, 0), T.2.2.2.2.1, T.2.2.2.2.2.1, T.2.2.2.2.2.2)).1.2.2.2 (cLp ad T.2.2.2.1 T.1 60 0 ((true, 0), T.2.2.2.2.1, T.2.2.2.2.2.1, T.2.2.2.2.2.2)).2 0 ((((K 6).2.2.2 2), ((K 6).2.2.2 4), ((K 6).2.2.2 5), ((K 6).2.2.1)), (((K 6).2.2.2 3), ((K 6).2.2.2 6), ((K 6).2.2.2 7)), ((K 6).1), ((K 6).2.1), b)).2).2.1.2.1) (((cRn ((K 6).2.2.2 0) ((K 6).2.2.2 1) wI (cLp ad T.2.2.2.1 T.1 60 0 ((true, 0), T.2.2.2.2.1, T.2.2.2.2.2.1, T.2.2.2.2.2.2)).1.2.2.1 (cLp ad T.2.2.2.1 T.1 60 0 ((true, 0), T.2.2.2.2.1, T.2.2.2.2.2.1, T.2.2.2.2.2.2)).1.2.2.2 (cLp ad T.2.2.2.1 T.1 60 0 ((true, 0), T.2.2.2.2.1, T.2.2.2.2.2.1, T.2.2.2.2.2.2)).2 0 ((((K 6).2.2.2 2), ((K 6).2.2.2 4), ((K 6).2.2.2 5), ((K 6).2.2.1)), (((K 6).2.2.2 3), ((K 6).2.2.2 6), ((K 6).2.2.2 7)), ((K 6).1), ((K 6).2.1), b)).2).2.1.2.2)), ((((cRn ((K 6).2.2.2 0) ((K 6).2.2.2 1) wI (cLp ad T.2.2.2.1 T.1 60 0 ((true, 0), T.2.2.2.2.1, T.2.2.2.2.2.1, T.2.2.2.2.2.2)).1.2.2.1 (cLp ad T.2.2.2.1 T.1 60 0 ((true, 0), T.2.2.2.2.1, T.2.2.2.2.2.1, T.2.2.2.2.2.2)).1.2.2.2 (cLp ad T.2.2.2.1 T.1 60 0 ((true, 0), T.2.2.2.2.1, T.2.2.2.2.2.1, T.2.2.2.2.2.2)).2 0 ((((K 6).2.2.2 2), ((K 6).2.2.2 4), ((K 6).2.2.2 5), ((K 6).2.2.1)), (((K 6).2.2.2 3), ((K 6).2.2.2 6), ((K 6).2.2.2 7)), ((K 6).1), ((K 6).2.1), b)).2.2.2.2.2).1), (((cRn ((K 6).2.2.2 0) ((K 6).2.2.2 1) wI (cLp ad T.2.2.2.1 T.1 60 0 ((true, 0), T.2.2.2.2.1, T.2.2.2.2.2.1, T.2.2.2.2.2.2)).1.2.2.1 (cLp ad T.2.2.2.1 T.1 60 0 ((true, 0), T.2.2.2.2.1, T.2.2.2.2.2.1, T.2.2.2.2.2.2)).1.2.2.2 (cLp ad T.2.2.2.1 T.1 60 0 ((true, 0), T.2.2.2.2.1, T.2.2.2.2.2.1, T.2.2.2.2.2.2)).2 0 ((((K 6).2.2.2 2), ((K 6).2.2.2 4), ((K 6).2.2.2 5), ((K 6).2.2.1)), (((K 6).2.2.2 3), ((K 6).2.2.2 6), ((K 6).2.2.2 7)), ((K 6).1), ((K 6).2.1), b)).2.2.2.2.2).2.1), (((cRn ((K 6).2.2.2 0) ((K 6).2.2.2 1) wI (cLp ad T.2.2.2.1 T.1 60 0 ((true, 0), T.2.2.2.2.1, T.2.2.2.2.2.1, T.2.2.2.2.2.2)).1.2.2.1 (cLp ad T.2.2.2.1 T.1 60 0 ((true, 0), T.2.2.2.2.1, T.2.2.2.2.2.1, T.2.2.2.2.2.2)).1.2.2.2 (cLp ad T.2.2.2.1 T.1 60 0 ((true, 0), T.2.2.2.2.1, T.2.2.2.2.2.1, T.2.2.2.2.2.2)).2 0 ((((K 6).2.2.2 2), ((K 6).2.2.2 4), ((K 6).2.2.2 5), ((K 6).2.2.1)), (((K 6).2.2.2 3), ((K 6).2.2.2 6), ((K 6).2.2.2 7)), ((K 6).1), ((K 6).2.1), b)).2.2.2.2.2).2.2.1), (((cRn ((K 6).2.2.2 0) ((K 6).2.2.2 1) wI (cLp ad T.2.2.2.1 T.1 60 0 ((true, 0), T.2.2.2.2.1, T.2.2.2.2.2.1, T.2.2.2.2.2.2)).1.2.2.1 (cLp ad T.2.2.2.1 T.1 60 0 ((true, 0), T.2.2.2.2.1, T.2.2.2.2.2.1, T.2.2.2.2.2.2)).1.2.2.2 (cLp ad T.2.2.2.1 T.1 60 0 ((true, 0), T.2.2.2.2.1, T.2.2.2.2.2.1, T.2.2.2.2.2.2)).2 0 ((((K 6).2.2.2 2), ((K 6).2.2.2 4), ((K 6).2.2.2 5), ((K 6).2.2.1)), (((K 6).2.2.2 3), ((K 6).2.2.2 6), ((K 6).2.2.2 7)), ((K 6).1), ((K 6).2.1), b)).2.2.2.2.2).2.2.2)), svN n, (0, (nI ((cLp ad T.2.2.2.1 T.1 60 0 ((true, 0), T.2.2.2.2.1, T.2.2.2.2.2.1, T.2.2.2.2.2.2)).2)), (nI ((cLp ad T.2.2.2.1 T.1 60 0 ((true, 0), T.2.2.2.2.1, T.2.2.2.2.2.1, T.2.2.2.2.2.2)).1.1.2)), T.2.2.2.1, (cLp ad T.2.2.2.1 T.1 60 0 ((true, 0), T.2.2.2.2.1, T.2.2.2.2.2.1, T.2.2.2.2.2.2)).1.2.1, (cLp ad T.2.2.2.1 T.1 60 0 ((true, 0), T.2.2.2.2.1, T.2.2.2.2.2.1, T.2.2.2.2.2.2)).1.2.2.1, (cLp ad T.2.2.2.1 T.1 60 0 ((true, 0), T.2.2.2.2.1, T.2.2.2.2.2.1, T.2.2.2.2.2.2)).1.2.2.2)) M (vp_updL ou (nI 0).toNatClampNeg r_1.toInt64)) H := hP
  replace hD : va_D Af (LW cI cV cW cL a (svA n A) (setK (svK n K) 6 (((cRn ((K 6).2.2.2 0) ((K 6).2.2.2 1) wI (cLp ad T.2.2.2.1 T.1 60 0 ((true, 0), T.2.2.2.2.1, T.2.2.2.2.2.1, T.2.2.2.2.2.2)).1.2.2.1 (cLp ad T.2.2.2.1 T.1 60 0 ((true, 0), T.2.2.2.2.1, T.2.2.2.2.2.1, T.2.2.2.2.2.2)).1.2.2.2 (cLp ad T.2.2.2.1 T.1 60 0 ((true, 0), T.2.2.2.2.1, T.2.2.2.2.2.1, T.2.2.2.2.2.2)).2 0 ((((K 6).2.2.2 2), ((K 6).2.2.2 4), ((K 6).2.2.2 5), ((K 6).2.2.1)), (((K 6).2.2.2 3), ((K 6).2.2.2 6), ((K 6).2.2.2 7)), ((K 6).1), ((K 6).2.1), b)).2).2.2.1, (((cRn ((K 6).2.2.2 0) ((K 6).2.2.2 1) wI (cLp ad T.2.2.2.1 T.1 60 0 ((true, 0), T.2.2.2.2.1, T.2.2.2.2.2.1, T.2.2.2.2.2.2)).1.2.2.1 (cLp ad T.2.2.2.1 T.1 60 0 ((true, 0), T.2.2.2.2.1, T.2.2.2.2.2.1, T.2.2.2.2.2.2)).1.2.2.2 (cLp ad T.2.2.2.1 T.1 60 0 ((true, 0), T.2.2.2.2.1, T.2.2.2.2.2.1, T.2.2.2.2.2.2)).2 0 ((((K 6).2.2.2 2), ((K 6).2.2.2 4), ((K 6).2.2.2 5), ((K 6).2.2.1)), (((K 6).2.2.2 3), ((K 6).2.2.2 6), ((K 6).2.2.2 7)), ((K 6).1), ((K 6).2.1), b)).2).2.2.2.1), (((cRn ((K 6).2.2.2 0) ((K 6).2.2.2 1) wI (cLp ad T.2.2.2.1 T.1 60 0 ((true, 0), T.2.2.2.2.1, T.2.2.2.2.2.1, T.2.2.2.2.2.2)).1.2.2.1 (cLp ad T.2.2.2.1 T.1 60 0 ((true, 0), T.2.2.2.2.1, T.2.2.2.2.2.1, T.2.2.2.2.2.2)).1.2.2.2 (cLp ad T.2.2.2.1 T.1 60 0 ((true, 0), T.2.2.2.2.1, T.2.2.2.2.2.1, T.2.2.2.2.2.2)).2 0 ((((K 6).2.2.2 2), ((K 6).2.2.2 4), ((K 6).2.2.2 5), ((K 6).2.2.1)), (((K 6).2.2.2 3), ((K 6).2.2.2 6), ((K 6).2.2.2 7)), ((K 6).1), ((K 6).2.1), b)).2).1.2.2.2), mk8 ((K 6).2.2.2 0) ((K 6).2.2.2 1) (((cRn ((K 6).2.2.2 0) ((K 6).2.2.2 1) wI (cLp ad T.2.2.2.1 T.1 60 0 ((true, 0), T.2.2.2.2.1, T.2.2.2.2.2.1, T.2.2.2.2.2.2)).1.2.2.1 (cLp ad T.2.2.2.1 T.1 60 0 ((true, 0), T.2.2.2.2.1, T.2.2.2.2.2.1, T.2.2.2.2.2.2)).1.2.2.2 (cLp ad T.2.2.2.1 T.1 60 0 ((true, 0), T.2.2.2.2.1, T.2.2.2.2.2.1, T.2.2.2.2.2.2)).2 0 ((((K 6).2.2.2 2), ((K 6).2.2.2 4), ((K 6).2.2.2 5), ((K 6).2.2.1)), (((K 6).2.2.2 3), ((K 6).2.2.2 6), ((K 6).2.2.2 7)), ((K 6).1), ((K 6).2.1), b)).2).1.1) (((cRn ((K 6).2.2.2 0) ((K 6).2.2.2 1) wI (cLp ad T.2.2.2.1 T.1 60 0 ((true, 0), T.2.2.2.2.1, T.2.2.2.2.2.1, T.2.2.2.2.2.2)).1.2.2.1 (cLp ad T.2.2.2.1 T.1 60 0 ((true, 0), T.2.2.2.2.1, T.2.2.2.2.2.1, T.2.2.2.2.2.2)).1.2.2.2 (cLp ad T.2.2.2.1 T.1 60 0 ((true, 0), T.2.2.2.2.1, T.2.2.2.2.2.1, T.2.2.2.2.2.2)).2 0 ((((K 6).2.2.2 2), ((K 6).2.2.2 4), ((K 6).2.2.2 5), ((K 6).2.2.1)), (((K 6).2.2.2 3), ((K 6).2.2.2 6), ((K 6).2.2.2 7)), ((K 6).1), ((K 6).2.1), b)).2).2.1.1) (((cRn ((K 6).2.2.2 0) ((K 6).2.2.2 1) wI (cLp ad T.2.2.2.1 T.1 60 0 ((true, 0), T.2.2.2.2.1, T.2.2.2.2.2.1, T.2.2.2.2.2.2)).1.2.2.1 (cLp ad T.2.2.2.1 T.1 60 0 ((true, 0), T.2.2.2.2.1, T.2.2.2.2.2.1, T.2.2.2.2.2.2)).1.2.2.2 (cLp ad T.2.2.2.1 T.1 60 0 ((true, 0), T.2.2.2.2.1, T.2.2.2.2.2.1, T.2.2.2.2.2.2)).2 0 ((((K 6).2.2.2 2), ((K 6).2.2.2 4), ((K 6).2.2.2 5), ((K 6).2.2.1)), (((K 6).2.2.2 3), ((K 6).2.2.2 6), ((K 6).2.2.2 7)), ((K 6).1), ((K 6).2.1), b)).2).1.2.1) (((cRn ((K 6).2.2.2 0) ((K 6).2.2.2 1) wI (cLp ad T.2.2.2.1 T.1 60 0 ((true, 0), T.2.2.2.2.1, T.2.2.2.2.2.1, T.2.2.2.2.2.2)).1.2.2.1 (cLp ad T.2.2.2.1 T.1 60 0 ((true, 0), T.2.2.2.2.1, T.2.2.2.2.2.1, T.2.2.2.2.2.2)).1.2.2.2 (cLp ad T.2.2.2.1 T.1 60 0 ((true, 0), T.2.2.2.2.1, T.2.2.2.2.2.1, T.2.2.2.2.2.2)).2 0 ((((K 6).2.2.2 2), ((K 6).2.2.2 4), ((K 6).2.2.2 5), ((K 6).2.2.1)), (((K 6).2.2.2 3), ((K 6).2.2.2 6), ((K 6).2.2.2 7)), ((K 6).1), ((K 6).2.1), b)).2).1.2.2.1) (((cRn ((K 6).2.2.2 0) ((K 6).2.2.2 1) wI (cLp ad T.2.2.2.1 T.1 60 0 ((true, 0), T.2.2.2.2.1, T.2.2.2.2.2.1, T.2.2.2.2.2.2)).1.2.2.1 (cLp ad T.2.2.2.1 T.1 60 0 ((true, 0), T.2.2.2.2.1, T.2.2.2.2.2.1, T.2.2.2.2.2.2)).1.2.2.2 (cLp ad T.2.2.2.1 T.1 60 0 ((true, 0), T.2.2.2.2.1, T.2.2.2.2.2.1, T.2.2.2.2.2.2)).2 0 ((((K 6).2.2.2 2), ((K 6).2.2.2 4), ((K 6).2.2.2 5), ((K 6).2.2.1)), (((K 6).2.2.2 3), ((K 6).2.2.2 6), ((K 6).2.2.2 7)), ((K 6).1), ((K 6).2.1), b)).2).2.1.2.1) (((cRn ((K 6).2.2.2 0) ((K 6).2.2.2 1) wI (cLp ad T.2.2.2.1 T.1 60 0 ((true, 0), T.2.2.2.2.1, T.2.2.2.2.2.1, T.2.2.2.2.2.2)).1.2.2.1 (cLp ad T.2.2.2.1 T.1 60 0 ((true, 0), T.2.2.2.2.1, T.2.2.2.2.2.1, T.2.2.2.2.2.2)).1.2.2.2 (cLp ad T.2.2.2.1 T.1 60 0 ((true, 0), T.2.2.2.2.1, T.2.2.2.2.2.1, T.2.2.2.2.2.2)).2 0 ((((K 6).2.2.2 2), ((K 6).2.2.2 4), ((K 6).2.2.2 5), ((K 6).2.2.1)), (((K 6).2.2.2 3), ((K 6).2.2.2 6), ((K 6).2.2.2 7)), ((K 6).1), ((K 6).2.1), b)).2).2.1.2.2)), ((((cRn ((K 6).2.2.2 0) ((K 6).2.2.2 1) wI (cLp ad T.2.2.2.1 T.1 60 0 ((true, 0), T.2.2.2.2.1, T.2.2.2.2.2.1, T.2.2.2.2.2.2)).1.2.2.1 (cLp ad T.2.2.2.1 T.1 60 0 ((true, 0), T.2.2.2.2.1, T.2.2.2.2.2.1, T.2.2.2.2.2.2)).1.2.2.2 (cLp ad T.2.2.2.1 T.1 60 0 ((true, 0), T.2.2.2.2.1, T.2.2.2.2.2.1, T.2.2.2.2.2.2)).2 0 ((((K 6).2.2.2 2), ((K 6).2.2.2 4), ((K 6).2.2.2 5), ((K 6).2.2.1)), (((K 6).2.2.2 3), ((K 6).2.2.2 6), ((K 6).2.2.2 7)), ((K 6).1), ((K 6).2.1), b)).2.2.2.2.2).1), (((cRn ((K 6).2.2.2 0) ((K 6).2.2.2 1) wI (cLp ad T.2.2.2.1 T.1 60 0 ((true, 0), T.2.2.2.2.1, T.2.2.2.2.2.1, T.2.2.2.2.2.2)).1.2.2.1 (cLp ad T.2.2.2.1 T.1 60 0 ((true, 0), T.2.2.2.2.1, T.2.2.2.2.2.1, T.2.2.2.2.2.2)).1.2.2.2 (cLp ad T.2.2.2.1 T.1 60 0 ((true, 0), T.2.2.2.2.1, T.2.2.2.2.2.1, T.2.2.2.2.2.2)).2 0 ((((K 6).2.2.2 2), ((K 6).2.2.2 4), ((K 6).2.2.2 5), ((K 6).2.2.1)), (((K 6).2.2.2 3), ((K 6).2.2.2 6), ((K 6).2.2.2 7)), ((K 6).1), ((K 6).2.1), b)).2.2.2.2.2).2.1), (((cRn ((K 6).2.2.2 0) ((K 6).2.2.2 1) wI (cLp ad T.2.2.2.1 T.1 60 0 ((true, 0), T.2.2.2.2.1, T.2.2.2.2.2.1, T.2.2.2.2.2.2)).1.2.2.1 (cLp ad T.2.2.2.1 T.1 60 0 ((true, 0), T.2.2.2.2.1, T.2.2.2.2.2.1, T.2.2.2.2.2.2)).1.2.2.2 (cLp ad T.2.2.2.1 T.1 60 0 ((true, 0), T.2.2.2.2.1, T.2.2.2.2.2.1, T.2.2.2.2.2.2)).2 0 ((((K 6).2.2.2 2), ((K 6).2.2.2 4), ((K 6).2.2.2 5), ((K 6).2.2.1)), (((K 6).2.2.2 3), ((K 6).2.2.2 6), ((K 6).2.2.2 7)), ((K 6).1), ((K 6).2.1), b)).2.2.2.2.2).2.2.1), (((cRn ((K 6).2.2.2 0) ((K 6).2.2.2 1) wI (cLp ad T.2.2.2.1 T.1 60 0 ((true, 0), T.2.2.2.2.1, T.2.2.2.2.2.1, T.2.2.2.2.2.2)).1.2.2.1 (cLp ad T.2.2.2.1 T.1 60 0 ((true, 0), T.2.2.2.2.1, T.2.2.2.2.2.1, T.2.2.2.2.2.2)).1.2.2.2 (cLp ad T.2.2.2.1 T.1 60 0 ((true, 0), T.2.2.2.2.1, T.2.2.2.2.2.1, T.2.2.2.2.2.2)).2 0 ((((K 6).2.2.2 2), ((K 6).2.2.2 4), ((K 6).2.2.2 5), ((K 6).2.2.1)), (((K 6).2.2.2 3), ((K 6).2.2.2 6), ((K 6).2.2.2 7)), ((K 6).1), ((K 6).2.1), b)).2.2.2.2.2).2.2.2)), svN n, (0, (nI ((cLp ad T.2.2.2.1 T.1 60 0 ((true, 0), T.2.2.2.2.1, T.2.2.2.2.2.1, T.2.2.2.2.2.2)).2)), (nI ((cLp ad T.2.2.2.1 T.1 60 0 ((true, 0), T.2.2.2.2.1, T.2.2.2.2.2.1, T.2.2.2.2.2.2)).1.1.2)), T.2.2.2.1, (cLp ad T.2.2.2.1 T.1 60 0 ((true, 0), T.2.2.2.2.1, T.2.2.2.2.2.1, T.2.2.2.2.2.2)).1.2.1, (cLp ad T.2.2.2.1 T.1 60 0 ((true, 0), T.2.2.2.2.1, T.2.2.2.2.2.1, T.2.2.2.2.2.2)).1.2.2.1, (cLp ad T.2.2.2.1 T.1 60 0 ((true, 0), T.2.2.2.2.1, T.2.2.2.2.2.1, T.2.2.2.2.2.2)).1.2.2.2)) M (vp_updL ou (nI 0).toNatClampNeg r_1.toInt64)) := hD
  refine lv_goto (tgt := 14) hx hb dL_run_8 (by decide) ?_
  refine lv_iconst (v := (nI 0)) hx hb dL_run_14 (by decide) ?_
  refine W.widen (k := 1) (n := 6) (by decide) (by decide) ?_
  refine vx_ret ?_
  exact W.iret (v := (nI 0)) hx hb hr (fun t ht hW => ⟨⟨(nI 0), ((svA n A), (setK (svK n K) 6 (((cRn ((K 6).2.2.2 0) ((K 6).2.2.2 1) wI (cLp ad T.2.2.2.1 T.1 60 0 ((true, 0), T.2.2.2.2.1, T.2.2.2.2.2.1, T.2.2.2.2.2.2)).1.2.2.1 (cLp ad T.2.2.2.1 T.1 60 0 ((true, 0), T.2.2.2.2.1, T.2.2.2.2.2.1, T.2.2.2.2.2.2)).1.2.2.2 (cLp ad T.2.2.2.1 T.1 60 0 ((true, 0), T.2.2.2.2.1, T.2.2.2.2.2.1, T.2.2.2.2.2.2)).2 0 ((((K 6).2.2.2 2), ((K 6).2.2.2 4), ((K 6).2.2.2 5), ((K 6).2.2.1)), (((K 6).2.2.2 3), ((K 6).2.2.2 6), ((K 6).2.2.2 7)), ((K 6).1), ((K 6).2.1), b)).2).2.2.1, (((cRn ((K 6).2.2.2 0) ((K 6).2.2.2 1) wI (cLp ad T.2.2.2.1 T.1 60 0 ((true, 0), T.2.2.2.2.1, T.2.2.2.2.2.1, T.2.2.2.2.2.2)).1.2.2.1 (cLp ad T.2.2.2.1 T.1 60 0 ((true, 0), T.2.2.2.2.1, T.2.2.2.2.2.1, T.2.2.2.2.2.2)).1.2.2.2 (cLp ad T.2.2.2.1 T.1 60 0 ((true, 0), T.2.2.2.2.1, T.2.2.2.2.2.1, T.2.2.2.2.2.2)).2 0 ((((K 6).2.2.2 2), ((K 6).2.2.2 4), ((K 6).2.2.2 5), ((K 6).2.2.1)), (((K 6).2.2.2 3), ((K 6).2.2.2 6), ((K 6).2.2.2 7)), ((K 6).1), ((K 6).2.1), b)).2).2.2.2.1), (((cRn ((K 6).2.2.2 0) ((K 6).2.2.2 1) wI (cLp ad T.2.2.2.1 T.1 60 0 ((true, 0), T.2.2.2.2.1, T.2.2.2.2.2.1, T.2.2.2.2.2.2)).1.2.2.1 (cLp ad T.2.2.2.1 T.1 60 0 ((true, 0), T.2.2.2.2.1, T.2.2.2.2.2.1, T.2.2.2.2.2.2)).1.2.2.2 (cLp ad T.2.2.2.1 T.1 60 0 ((true, 0), T.2.2.2.2.1, T.2.2.2.2.2.1, T.2.2.2.2.2.2)).2 0 ((((K 6).2.2.2 2), ((K 6).2.2.2 4), ((K 6).2.2.2 5), ((K 6).2.2.1)), (((K 6).2.2.2 3), ((K 6).2.2.2 6), ((K 6).2.2.2 7)), ((K 6).1), ((K 6).2.1), b)).2).1.2.2.2), mk8 ((K 6).2.2.2 0) ((K 6).2.2.2 1) (((cRn ((K 6).2.2.2 0) ((K 6).2.2.2 1) wI (cLp ad T.2.2.2.1 T.1 60 0 ((true, 0), T.2.2.2.2.1, T.2.2.2.2.2.1, T.2.2.2.2.2.2)).1.2.2.1 (cLp ad T.2.2.2.1 T.1 60 0 ((true, 0), T.2.2.2.2.1, T.2.2.2.2.2.1, T.2.2.2.2.2.2)).1.2.2.2 (cLp ad T.2.2.2.1 T.1 60 0 ((true, 0), T.2.2.2.2.1, T.2.2.2.2.2.1, T.2.2.2.2.2.2)).2 0 ((((K 6).2.2.2 2), ((K 6).2.2.2 4), ((K 6).2.2.2 5), ((K 6).2.2.1)), (((K 6).2.2.2 3), ((K 6).2.2.2 6), ((K 6).2.2.2 7)), ((K 6).1), ((K 6).2.1), b)).2).1.1) (((cRn ((K 6).2.2.2 0) ((K 6).2.2.2 1) wI (cLp ad T.2.2.2.1 T.1 60 0 ((true, 0), T.2.2.2.2.1, T.2.2.2.2.2.1, T.2.2.2.2.2.2)).1.2.2.1 (cLp ad T.2.2.2.1 T.1 60 0 ((true, 0), T.2.2.2.2.1, T.2.2.2.2.2.1, T.2.2.2.2.2.2)).1.2.2.2 (cLp ad T.2.2.2.1 T.1 60 0 ((true, 0), T.2.2.2.2.1, T.2.2.2.2.2.1, T.2.2.2.2.2.2)).2 0 ((((K 6).2.2.2 2), ((K 6).2.2.2 4), ((K 6).2.2.2 5), ((K 6).2.2.1)), (((K 6).2.2.2 3), ((K 6).2.2.2 6), ((K 6).2.2.2 7)), ((K 6).1), ((K 6).2.1), b)).2).2.1.1) (((cRn ((K 6).2.2.2 0) ((K 6).2.2.2 1) wI (cLp ad T.2.2.2.1 T.1 60 0 ((true, 0), T.2.2.2.2.1, T.2.2.2.2.2.1, T.2.2.2.2.2.2)).1.2.2.1 (cLp ad T.2.2.2.1 T.1 60 0 ((true, 0), T.2.2.2.2.1, T.2.2.2.2.2.1, T.2.2.2.2.2.2)).1.2.2.2 (cLp ad T.2.2.2.1 T.1 60 0 ((true, 0), T.2.2.2.2.1, T.2.2.2.2.2.1, T.2.2.2.2.2.2)).2 0 ((((K 6).2.2.2 2), ((K 6).2.2.2 4), ((K 6).2.2.2 5), ((K 6).2.2.1)), (((K 6).2.2.2 3), ((K 6).2.2.2 6), ((K 6).2.2.2 7)), ((K 6).1), ((K 6).2.1), b)).2).1.2.1) (((cRn ((K 6).2.2.2 0) ((K 6).2.2.2 1) wI (cLp ad T.2.2.2.1 T.1 60 0 ((true, 0), T.2.2.2.2.1, T.2.2.2.2.2.1, T.2.2.2.2.2.2)).1.2.2.1 (cLp ad T.2.2.2.1 T.1 60 0 ((true, 0), T.2.2.2.2.1, T.2.2.2.2.2.1, T.2.2.2.2.2.2)).1.2.2.2 (cLp ad T.2.2.2.1 T.1 60 0 ((true, 0), T.2.2.2.2.1, T.2.2.2.2.2.1, T.2.2.2.2.2.2)).2 0 ((((K 6).2.2.2 2), ((K 6).2.2.2 4), ((K 6).2.2.2 5), ((K 6).2.2.1)), (((K 6).2.2.2 3), ((K 6).2.2.2 6), ((K 6).2.2.2 7)), ((K 6).1), ((K 6).2.1), b)).2).1.2.2.1) (((cRn ((K 6).2.2.2 0) ((K 6).2.2.2 1) wI (cLp ad T.2.2.2.1 T.1 60 0 ((true, 0), T.2.2.2.2.1, T.2.2.2.2.2.1, T.2.2.2.2.2.2)).1.2.2.1 (cLp ad T.2.2.2.1 T.1 60 0 ((true, 0), T.2.2.2.2.1, T.2.2.2.2.2.1, T.2.2.2.2.2.2)).1.2.2.2 (cLp ad T.2.2.2.1 T.1 60 0 ((true, 0), T.2.2.2.2.1, T.2.2.2.2.2.1, T.2.2.2.2.2.2)).2 0 ((((K 6).2.2.2 2), ((K 6).2.2.2 4), ((K 6).2.2.2 5), ((K 6).2.2.1)), (((K 6).2.2.2 3), ((K 6).2.2.2 6), ((K 6).2.2.2 7)), ((K 6).1), ((K 6).2.1), b)).2).2.1.2.1) (((cRn ((K 6).2.2.2 0) ((K 6).2.2.2 1) wI (cLp ad T.2.2.2.1 T.1 60 0 ((true, 0), T.2.2.2.2.1, T.2.2.2.2.2.1, T.2.2.2.2.2.2)).1.2.2.1 (cLp ad T.2.2.2.1 T.1 60 0 ((true, 0), T.2.2.2.2.1, T.2.2.2.2.2.1, T.2.2.2.2.2.2)).1.2.2.2 (cLp ad T.2.2.2.1 T.1 60 0 ((true, 0), T.2.2.2.2.1, T.2.2.2.2.2.1, T.2.2.2.2.2.2)).2 0 ((((K 6).2.2.2 2), ((K 6).2.2.2 4), ((K 6).2.2.2 5), ((K 6).2.2.1)), (((K 6).2.2.2 3), ((K 6).2.2.2 6), ((K 6).2.2.2 7)), ((K 6).1), ((K 6).2.1), b)).2).2.1.2.2)), ((((cRn ((K 6).2.2.2 0) ((K 6).2.2.2 1) wI (cLp ad T.2.2.2.1 T.1 60 0 ((true, 0), T.2.2.2.2.1, T.2.2.2.2.2.1, T.2.2.2.2.2.2)).1.2.2.1 (cLp ad T.2.2.2.1 T.1 60 0 ((true, 0), T.2.2.2.2.1, T.2.2.2.2.2.1, T.2.2.2.2.2.2)).1.2.2.2 (cLp ad T.2.2.2.1 T.1 60 0 ((true, 0), T.2.2.2.2.1, T.2.2.2.2.2.1, T.2.2.2.2.2.2)).2 0 ((((K 6).2.2.2 2), ((K 6).2.2.2 4), ((K 6).2.2.2 5), ((K 6).2.2.1)), (((K 6).2.2.2 3), ((K 6).2.2.2 6), ((K 6).2.2.2 7)), ((K 6).1), ((K 6).2.1), b)).2.2.2.2.2).1), (((cRn ((K 6).2.2.2 0) ((K 6).2.2.2 1) wI (cLp ad T.2.2.2.1 T.1 60 0 ((true, 0), T.2.2.2.2.1, T.2.2.2.2.2.1, T.2.2.2.2.2.2)).1.2.2.1 (cLp ad T.2.2.2.1 T.1 60 0 ((true, 0), T.2.2.2.2.1, T.2.2.2.2.2.1, T.2.2.2.2.2.2)).1.2.2.2 (cLp ad T.2.2.2.1 T.1 60 0 ((true, 0), T.2.2.2.2.1, T.2.2.2.2.2.1, T.2.2.2.2.2.2)).2 0 ((((K 6).2.2.2 2), ((K 6).2.2.2 4), ((K 6).2.2.2 5), ((K 6).2.2.1)), (((K 6).2.2.2 3), ((K 6).2.2.2 6), ((K 6).2.2.2 7)), ((K 6).1), ((K 6).2.1), b)).2.2.2.2.2).2.1), (((cRn ((K 6).2.2.2 0) ((K 6).2.2.2 1) wI (cLp ad T.2.2.2.1 T.1 60 0 ((true, 0), T.2.2.2.2.1, T.2.2.2.2.2.1, T.2.2.2.2.2.2)).1.2.2.1 (cLp ad T.2.2.2.1 T.1 60 0 ((true, 0), T.2.2.2.2.1, T.2.2.2.2.2.1, T.2.2.2.2.2.2)).1.2.2.2 (cLp ad T.2.2.2.1 T.1 60 0 ((true, 0), T.2.2.2.2.1, T.2.2.2.2.2.1, T.2.2.2.2.2.2)).2 0 ((((K 6).2.2.2 2), ((K 6).2.2.2 4), ((K 6).2.2.2 5), ((K 6).2.2.1)), (((K 6).2.2.2 3), ((K 6).2.2.2 6), ((K 6).2.2.2 7)), ((K 6).1), ((K 6).2.1), b)).2.2.2.2.2).2.2.1), (((cRn ((K 6).2.2.2 0) ((K 6).2.2.2 1) wI (cLp ad T.2.2.2.1 T.1 60 0 ((true, 0), T.2.2.2.2.1, T.2.2.2.2.2.1, T.2.2.2.2.2.2)).1.2.2.1 (cLp ad T.2.2.2.1 T.1 60 0 ((true, 0), T.2.2.2.2.1, T.2.2.2.2.2.1, T.2.2.2.2.2.2)).1.2.2.2 (cLp ad T.2.2.2.1 T.1 60 0 ((true, 0), T.2.2.2.2.1, T.2.2.2.2.2.1, T.2.2.2.2.2.2)).2 0 ((((K 6).2.2.2 2), ((K 6).2.2.2 4), ((K 6).2.2.2 5), ((K 6).2.2.1)), (((K 6).2.2.2 3), ((K 6).2.2.2 6), ((K 6).2.2.2 7)), ((K 6).1), ((K 6).2.1), b)).2.2.2.2.2).2.2.2)), svN n, (0, (nI ((cLp ad T.2.2.2.1 T.1 60 0 ((true, 0), T.2.2.2.2.1, T.2.2.2.2.2.1, T.2.2.2.2.2.2)).2)), (nI ((cLp ad T.2.2.2.1 T.1 60 0 ((true, 0), T.2.2.2.2.1, T.2.2.2.2.2.1, T.2.2.2.2.2.2)).1.1.2)), T.2.2.2.1, (cLp ad T.2.2.2.1 T.1 60 0 ((true, 0), T.2.2.2.2.1, T.2.2.2.2.2.1, T.2.2.2.2.2.2)).1.2.1, (cLp ad T.2.2.2.1 T.1 60 0 ((true, 0), T.2.2.2.2.1, T.2.2.2.2.2.1, T.2.2.2.2.2.2)).1.2.2.1, (cLp ad T.2.2.2.1 T.1 60 0 ((true, 0), T.2.2.2.2.1, T.2.2.2.2.2.1, T.2.2.2.2.2.2)).1.2.2.2)), vp_updL ou (nI 0).toNatClampNeg r_1.toInt64), rfl, Or.inl ⟨rfl, r_1, hw_, rfl⟩, by rw [ht]; exact hP, hD⟩, hS.F ht⟩) hS.2.2 dL_run_15
theorem hdX5_undo : yX5_undo.cls = RX5 ∧ yX5_undo.cls ≠ "java/lang/invoke/MethodHandle" ∧ yX5_undo.cls ≠ "java/lang/invoke/VarHandle" ∧ (parseMethodDescriptor yX5_undo.desc).map (fun d => d.parameters.length) = some 0 := by decide +kernel
set_option maxHeartbeats 4000000 in
set_option maxRecDepth 100000 in
theorem hL_undo (l : Launch) (dC : Nat → ClassId) (dI : Nat → Nat → Nat) (cI cV cW cL : ClassId) (wa sw : Nat) (ad aK aV : Nat → Nat) (sa : Nat → Nat) (sz : Nat) (a : Nat → Nat) (A : Nat → Nat → Nat) (hlt : l.stackTraces = false) (K : Nat → VS) (b : CS) (n : Nat) (T : TS) (M : MS) (ou : Nat → Int64)  (hn6 : n ≤ 6) : Met l yL_undo wsL_undo ({ frames := 7, cells := 1, slots := 6, locals := 121 }) (pL sa wa sw ad aK aV (dC, dI) (tyL cI cV cW cL) sz [.ref (a 0), .ref (a 14)] (LW cI cV cW cL a A (K, b, n, T) M ou)) (va_Qi (fun (r_ : Int32) (w9 : HU) => (r_ = nI 0 ∧ ∃ v9 : Int32, (v9 = nI (n - 1) ∧ 1 ≤ n) ∧ w9 = (A, (setK K 6 (cpV (K (n - 1)) (K 6)), b, n - 1, T), vp_updL ou (nI 0).toNatClampNeg v9.toInt64)) ∨ (((n = 0 ∧ r_ = nI 1)) ∧ w9 = (A, (K, b, n, T), ou))) (fun (w9 : HU) t => qL (dC, dI) (va_A (LW cI cV cW cL a A (K, b, n, T) M ou) sz) (LW cI cV cW cL a w9.1 w9.2.1 M w9.2.2) t) (va_A (LW cI cV cW cL a A (K, b, n, T) M ou) sz)) 1 6 (va_A (LW cI cV cW cL a A (K, b, n, T) M ou) sz) := by
  refine met_of_vx (vx_ofWH (cc := cL_undo) (maxL := 3) (ret := (some .int)) (hh := [(0, 8, 11, 17)]) (by decide) rfl ?_)
  intro p e s m args below meth c s₁ B hml hv
  obtain ⟨rfl, hsz, hP, hK, hD0, hIm, hNw, hXm, hC3⟩ := hv
  have hx := B.exec
  have hb := B.bytes
  have hr := B.returns
  have hts := atoms_spec (ws := wsL_undo) B.pre
  have hown : s.vm.findClass RL = some m.cls := findClass_of_methodNamed B.named
  have hlocks := B.notSynchronized
  have htab := vx_table (x := yL_undo) B (hts _ List.mem_cons_self)
  subst hsz
  have hD := hD0.self (sz := s.heap.size)
  generalize hAe : va_A (LW cI cV cW cL a A (K, b, n, T) M ou) s.heap.size = Af at hD hIm hXm ⊢
  have hA : ∀ q : Nat, s.heap.size ≤ q → Af q := fun q h => by rw [← hAe]; exact Or.inr h
  have hS : va_S Af s.heap s.heap [] := va_S.rf
  refine w_gen hP hS (fun H locs hP hS => ?_)
  have hl := lv_entry ([.ref (a 0), .ref (a 14)]) (n := 3) (Nat.le_of_ble_eq_true rfl)
  rw [lg_entry_eq]
  generalize (lg_sl ([.ref (a 0), .ref (a 14)]) ++ List.replicate (3 - (lg_sl ([.ref (a 0), .ref (a 14)])).length) Slot.unset).toArray = ls at hl ⊢
  replace hl : lv_has ls 3 [(0, .ref (a 0)), (1, .ref (a 14))] := hl
  refine lv_aload_n hx hb dL_undo_0 rfl (lv_at hl 1 rfl) ?_
  refine lv_iconst (v := (nI 0)) hx hb dL_undo_1 (by decide) ?_
  refine lv_aload_n hx hb dL_undo_2 rfl (lv_at hl 0 rfl) ?_
  have hFc := freeW hD hS hA
  refine vx_calli (vx_runV (As := []) (rest := [.int (nI 0), .ref (a 14)]) ⟨hx, hb, hml, hown, hts⟩ (aX5_undo l dC dI cI cV cW cL wa sw ad aK aV sa H.size a A hlt K b n T M ou  hn6) (cwV 0 hts gL_undo_X5_undo rfl rfl rfl hdX5_undo ⟨Nat.le_of_ble_eq_true rfl, Nat.le_of_ble_eq_true rfl⟩) (pL_V (A := Af) hK (imW hIm hS hFc) hNw (hXm.at hS hFc) hC3 hP hD 0 3 rfl rfl rfl) rfl rfl hl.1 rfl (lv_room (Nat.le_of_ble_eq_true rfl)) dL_undo_3 ⟨Nat.le_of_ble_eq_true rfl, Nat.le_of_ble_eq_true rfl⟩) hS (fun q _ h => hFc q h) hFc (fun q _ h => hFc q h) (fun E9 ce9 q9 _ t9_ H1 locs ht_ hvm_ _ hbx_ hz_ hk_ hS hce_ hcv_ hcl_ => ?_) (fun r_1 u_ t_ H1 locs ht_ hvm_ hw_ hB_ hz_ hk_ hS => ?_)
  · obtain ⟨hxc, hP1, hD1⟩ := hbx_
    rw [ht_] at hP1
    have hP := hP1
    have hD := hD1.weaken (fun _ q _ h => hFc q.1 h)
    obtain ⟨rfl, hc9⟩ := hxc
    refine vx_catch (own := RL) (name := eS) hown [] ⟨0, 8, 11, 17⟩ [] (by rw [htab]; rfl) (fun z hz => absurd hz List.not_mem_nil) (by decide) (by decide) (hts (.classLink RL 17 eS) (by decide +kernel)) (hXm.1.use _ (by decide +kernel)) hce_ hcv_ hcl_ ?_
    refine lv_astore_n (lv' := [(2, .ref q9), (0, .ref (a 0)), (1, .ref (a 14))]) hx hb dL_undo_11 rfl hl (by decide) rfl (fun ls hl => ?_)
    refine lv_iconst (v := (nI 1)) hx hb dL_undo_12 (by decide) ?_
    refine W.widen (k := 1) (n := 6) (by decide) (by decide) ?_
    refine vx_ret ?_
    exact W.iret (v := (nI 1)) hx hb hr (fun t ht hW => ⟨⟨(nI 1), (A, (K, b, n, T), ou), rfl, Or.inr ⟨⟨hc9, rfl⟩, rfl⟩, by rw [ht]; exact hP, hD⟩, hS.F ht⟩) hS.2.2 dL_undo_13
  obtain ⟨hP1, hD1⟩ := hB_
  rw [ht_] at hP1
  have hP := hP1
  have hD := hD1.weaken (fun _ q _ h => hFc q.1 h)
  clear hP1 hD1 hFc hk_ hz_ hvm_ ht_
  generalize H1 = H at hP hS ⊢
  refine lv_i2l (v := r_1.toInt64) hx hb dL_undo_6 rfl ?_
  refine va_last hx hb hK hP hD hS 86 3 rfl rfl (vp_in_nI (by decide) (by decide)) dL_undo_7 (fun H locs hP hD hS => ?_)
  replace hP : va_P (dC, dI) vwCl (LW cI cV cW cL a A (setK K 6 (cpV (K (n - 1)) (K 6)), b, n - 1, T) M (vp_updL ou (nI 0).toNatClampNeg r_1.toInt64)) H := hP
  replace hD : va_D Af (LW cI cV cW cL a A (setK K 6 (cpV (K (n - 1)) (K 6)), b, n - 1, T) M (vp_updL ou (nI 0).toNatClampNeg r_1.toInt64)) := hD
  refine lv_goto (tgt := 14) hx hb dL_undo_8 (by decide) ?_
  refine lv_iconst (v := (nI 0)) hx hb dL_undo_14 (by decide) ?_
  refine W.widen (k := 1) (n := 6) (by decide) (by decide) ?_
  refine vx_ret ?_
  exact W.iret (v := (nI 0)) hx hb hr (fun t ht hW => ⟨⟨(nI 0), (A, (setK K 6 (cpV (K (n - 1)) (K 6)), b, n - 1, T), vp_updL ou (nI 0).toNatClampNeg r_1.toInt64), rfl, Or.inl ⟨rfl, r_1, hw_, rfl⟩, by rw [ht]; exact hP, hD⟩, hS.F ht⟩) hS.2.2 dL_undo_15
