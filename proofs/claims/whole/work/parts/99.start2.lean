section LAWBEGIN
/-- the world of VaultShelves behind its constructor -/
def W5 (cI cV cW : ClassId) (v : Nat) (u5 : Nat → Nat) : va_W := [(v, .inr (3, [.ref (u5 0), .ref (u5 9), .ref (u5 18), .ref (u5 19), .ref (u5 24), .int (nI 0)])), ((u5 0), .inr (2, [.ref (u5 1), .ref (u5 2), .ref (u5 3), .ref (u5 4), .ref (u5 5), .ref (u5 6), .ref (u5 7), .ref (u5 8), .int (nI 0), .int 0, .int 0])), ((u5 1), .inl (cI, 6, .inl (vRm 6))), ((u5 2), .inl (cI, 6, .inl (vQm 6))), ((u5 3), .inl (cI, 6, .inl z0)), ((u5 4), .inl (cI, 16, .inl z0)), ((u5 5), .inl (cI, 16, .inl z0)), ((u5 6), .inl (cI, 16, .inl z0)), ((u5 7), .inl (cI, 16, .inl z0)), ((u5 8), .inl (cI, 16, .inl z0)), ((u5 9), .inr (2, [.ref (u5 10), .ref (u5 11), .ref (u5 12), .ref (u5 13), .ref (u5 14), .ref (u5 15), .ref (u5 16), .ref (u5 17), .int (nI 0), .int 0, .int 0])), ((u5 10), .inl (cI, 6, .inl (vRm 6))), ((u5 11), .inl (cI, 6, .inl (vQm 6))), ((u5 12), .inl (cI, 6, .inl z0)), ((u5 13), .inl (cI, 16, .inl z0)), ((u5 14), .inl (cI, 16, .inl z0)), ((u5 15), .inl (cI, 16, .inl z0)), ((u5 16), .inl (cI, 16, .inl z0)), ((u5 17), .inl (cI, 16, .inl z0)), ((u5 18), .inr (1, [.int 0, .int 0, .int 0, .int 0])), ((u5 19), .inr (0, [.ref (u5 20), .ref (u5 21), .ref (u5 22), .ref (u5 23), .int (nI 0), .int (nI 0), .int (nI 0)])), ((u5 20), .inl (cI, 60, .inl z0)), ((u5 21), .inl (cW, 60, .inr (.inr (.inr (.inr no0))))), ((u5 22), .inl (cI, 60, .inl z0)), ((u5 23), .inl (cI, 60, .inl z0)), ((u5 24), .inl (cV, 6, .inr (.inr (.inr (.inr (va_6 (u5 25) (u5 34) (u5 43) (u5 52) (u5 61) (u5 70))))))), ((u5 25), .inr (2, [.ref (u5 26), .ref (u5 27), .ref (u5 28), .ref (u5 29), .ref (u5 30), .ref (u5 31), .ref (u5 32), .ref (u5 33), .int (nI 0), .int 0, .int 0])), ((u5 26), .inl (cI, 6, .inl (vRm 6))), ((u5 27), .inl (cI, 6, .inl (vQm 6))), ((u5 28), .inl (cI, 6, .inl z0)), ((u5 29), .inl (cI, 16, .inl z0)), ((u5 30), .inl (cI, 16, .inl z0)), ((u5 31), .inl (cI, 16, .inl z0)), ((u5 32), .inl (cI, 16, .inl z0)), ((u5 33), .inl (cI, 16, .inl z0)), ((u5 34), .inr (2, [.ref (u5 35), .ref (u5 36), .ref (u5 37), .ref (u5 38), .ref (u5 39), .ref (u5 40), .ref (u5 41), .ref (u5 42), .int (nI 0), .int 0, .int 0])), ((u5 35), .inl (cI, 6, .inl (vRm 6))), ((u5 36), .inl (cI, 6, .inl (vQm 6))), ((u5 37), .inl (cI, 6, .inl z0)), ((u5 38), .inl (cI, 16, .inl z0)), ((u5 39), .inl (cI, 16, .inl z0)), ((u5 40), .inl (cI, 16, .inl z0)), ((u5 41), .inl (cI, 16, .inl z0)), ((u5 42), .inl (cI, 16, .inl z0)), ((u5 43), .inr (2, [.ref (u5 44), .ref (u5 45), .ref (u5 46), .ref (u5 47), .ref (u5 48), .ref (u5 49), .ref (u5 50), .ref (u5 51), .int (nI 0), .int 0, .int 0])), ((u5 44), .inl (cI, 6, .inl (vRm 6))), ((u5 45), .inl (cI, 6, .inl (vQm 6))), ((u5 46), .inl (cI, 6, .inl z0)), ((u5 47), .inl (cI, 16, .inl z0)), ((u5 48), .inl (cI, 16, .inl z0)), ((u5 49), .inl (cI, 16, .inl z0)), ((u5 50), .inl (cI, 16, .inl z0)), ((u5 51), .inl (cI, 16, .inl z0)), ((u5 52), .inr (2, [.ref (u5 53), .ref (u5 54), .ref (u5 55), .ref (u5 56), .ref (u5 57), .ref (u5 58), .ref (u5 59), .ref (u5 60), .int (nI 0), .int 0, .int 0])), ((u5 53), .inl (cI, 6, .inl (vRm 6))), ((u5 54), .inl (cI, 6, .inl (vQm 6))), ((u5 55), .inl (cI, 6, .inl z0)), ((u5 56), .inl (cI, 16, .inl z0)), ((u5 57), .inl (cI, 16, .inl z0)), ((u5 58), .inl (cI, 16, .inl z0)), ((u5 59), .inl (cI, 16, .inl z0)), ((u5 60), .inl (cI, 16, .inl z0)), ((u5 61), .inr (2, [.ref (u5 62), .ref (u5 63), .ref (u5 64), .ref (u5 65), .ref (u5 66), .ref (u5 67), .ref (u5 68), .ref (u5 69), .int (nI 0), .int 0, .int 0])), ((u5 62), .inl (cI, 6, .inl (vRm 6))), ((u5 63), .inl (cI, 6, .inl (vQm 6))), ((u5 64), .inl (cI, 6, .inl z0)), ((u5 65), .inl (cI, 16, .inl z0)), ((u5 66), .inl (cI, 16, .inl z0)), ((u5 67), .inl (cI, 16, .inl z0)), ((u5 68), .inl (cI, 16, .inl z0)), ((u5 69), .inl (cI, 16, .inl z0)), ((u5 70), .inr (2, [.ref (u5 71), .ref (u5 72), .ref (u5 73), .ref (u5 74), .ref (u5 75), .ref (u5 76), .ref (u5 77), .ref (u5 78), .int (nI 0), .int 0, .int 0])), ((u5 71), .inl (cI, 6, .inl (vRm 6))), ((u5 72), .inl (cI, 6, .inl (vQm 6))), ((u5 73), .inl (cI, 6, .inl z0)), ((u5 74), .inl (cI, 16, .inl z0)), ((u5 75), .inl (cI, 16, .inl z0)), ((u5 76), .inl (cI, 16, .inl z0)), ((u5 77), .inl (cI, 16, .inl z0)), ((u5 78), .inl (cI, 16, .inl z0))]
def W6 (cI : ClassId) (o cS cX cA cB cR : Nat) : va_W := [(o, .inr (4, [.int 0, .ref cS, .ref cX, .ref cA, .int 0, .ref cB, .int 0, .int 0, .int (bI false), .ref cR, .int 0, .int 0, .int 0, .int 0, .int (bI false), .long 0])), (cS, .inl (cI, 96, .inl (mS0 6))), (cX, .inl (cI, 96, .inl z0)), (cA, .inl (cI, 576, .inl z0)), (cB, .inl (cI, 60, .inl z0)), (cR, .inl (cI, 48, .inl z0))]
def aF (v o cS cX cA cB cR q : Nat) (u5 : Nat → Nat) : Nat → Nat
  | 0 => v
  | 1 => u5 18
  | 2 => u5 19
  | 3 => u5 20
  | 4 => u5 21
  | 5 => u5 22
  | 6 => u5 23
  | 7 => u5 24
  | 8 => o
  | 9 => cS
  | 10 => cX
  | 11 => cA
  | 12 => cB
  | 13 => cR
  | _ => q
def AF (u5 : Nat → Nat) : Nat → Nat → Nat
  | 6, k => u5 k
  | 7, k => u5 (9 + k)
  | j, k => u5 (25 + 9 * j + k)
def X0 : XS := (fun _ => (0, 0, 0, mk8 (vRm 6) (vQm 6) z0 z0 z0 z0 z0 z0), (0, 0, 0, 0), 0, (0, nI 0, nI 0, z0, no0, z0, z0))
def M0 : MS := (0, 0, 0, 0, false, 0, (0, 0, 0, false), 0, mk5 (mS0 6) z0 z0 z0 z0)
theorem RV0 : RV (mS0 6) 0 0 0 (vRm 6) (vQm 6) z0 z0 z0 z0 z0 z0 :=
  ⟨by decide +kernel, by decide, by decide +kernel, by decide +kernel, by decide +kernel, by decide +kernel, by decide +kernel, fun r h => absurd h (Nat.not_lt_zero r), fun r h => absurd h (Nat.not_lt_zero r), fun r h => absurd h (Nat.not_lt_zero r), fun r h => absurd h (Nat.not_lt_zero r), fun r h => absurd h (Nat.not_lt_zero r), fun r h => absurd h (Nat.not_lt_zero r), fun r h => absurd h (Nat.not_lt_zero r), by decide +kernel, by decide +kernel, fun r _ h => (show ∀ r, r < 16 → gW (mS0 6) 3 r = 0 ∧ gW (mS0 6) 4 r = 0 by decide +kernel) r h⟩
theorem INV0 : INV X0 M0 := ⟨RV0, Nat.zero_le _, rfl, fun j h => absurd h (Nat.not_lt_zero j), Nat.zero_le _, rfl, rfl⟩
set_option maxRecDepth 100000 in
theorem LW0 {cI cV cW cL : ClassId} {v o cS cX cA cB cR q : Nat} {u5 : Nat → Nat} : (W5 cI cV cW v u5 ++ W6 cI o cS cX cA cB cR) ++ [(q, .inl (cL, 1, .inr (.inl (fun _ => 0))))] = LW cI cV cW cL (aF v o cS cX cA cB cR q u5) (AF u5) X0 M0 (fun _ => 0) := rfl
end LAWBEGIN
/-! THE CLAIM OUT OF ONE WALK OF THE LAW'S BODY. Your part is whole_start (and what it stands on); all else here is the same for every law, but numbers. -/
def R_law : String := "VaultShelvesLaw"
def lw_P (b : Addr) (xs : List Int32) (args : Array Value) (s : State) : Prop := args = #[.ref b] ∧ s.IntsAt b xs ∧ xs.length ≤ 2048 ∧ (Jvm.Cond.and given_1 narrow_1).before args s = true
/-- what a walk over the start with the record d0 says of its end, said of the start itself -/
theorem lw_closed {s t : State} {o : Outcome} {d0 : Drawn} {L : List Loc} {k n : Nat} (hd0 : s.drawn.sameBut d0 lw_cs) (hv : ∃ v, o = .returned v) (hW : (s.setDrawn d0).WarmedH t.vm) (hs : (s.setDrawn d0).sameButNew ({ t with vm := s.vm } : State) L k n) : State.butDraws s t lw_cs (fun t1 => Framed s o t1 L k n) := by
  have h2 : t.drawn = d0 := congrArg State.drawn hs.1
  refine ⟨⟨hv, hW, State.sameButNew.setDrawn hs s.drawn⟩, ?_, by decide⟩
  rw [h2]
  exact hd0
def lw_Q (_ : Array Value) (s : State) (o : Outcome) (t : State) : Prop := o = .returned (some (.int 1)) ∧ State.butDraws s t lw_cs (fun t1 => Framed s o t1 [] 601024 7293034)
def lw_Z (below : List Frame) (a : Array Value) (s : State) : State → Prop := fun t => ∃ o, t.status = .running ∧ Ended t below o ∧ lw_Q a s o t
/-- the law's own end, with 1 on the stack, nothing written that was there before, its room as the claim has it; d0: the record of draws at this point (at the entry s.drawn: begin with 'refine W.base ?_' and 'have hd0 := Drawn.sameBut.refl s.drawn lw_cs') -/
theorem lw_ret {p : Program} {l : Launch} {e : Env} {s : State} {m : MethodId} {below : List Frame} {meth : Method} {c : Code} {b : Nat} {d0 : Drawn} (hd0 : s.drawn.sameBut d0 lw_cs) (hx : p.tables.exec = Jvm.exec) (hb : c.code = code) (hr : meth.sig.returnType = ret) (hlocks : meth.locks = false) {pc : Nat} {H : Heap} {ls : Array Slot} (hdg : decode code pc = .ok (.ireturn, 1)) : W p l e room_1 (s.setDrawn d0) m #[Value.ref b] below meth c H [] 601024 7293034 (lw_Z below #[Value.ref b] s) (F0 m pc ls [.int 1]) := by
  intro T hT X
  obtain ⟨fs, hret, hrun, hended, hW, hframe⟩ := X.leave (v := some (.int 1)) (hlocks := hlocks) (fun h => by rw [hr] at h; cases h)
  have hmeth' : T.vm.method? m = some meth := X.method'
  refine ⟨T.setFrames fs, ?_, .returned (some (.int 1)), hrun, hended, rfl, lw_closed hd0 ⟨_, rfl⟩ hW hframe⟩
  jvm_step X.here [X.here.top, hx, hb, hdg, hmeth', hr, ret, narrow_b1]
  (try refine ⟨rfl, ?_⟩); (try refine ⟨rfl, ?_⟩)
  first | (intro acts; rw [hret _ acts rfl rfl rfl]) | rw [hret _ _ rfl rfl rfl]
  exact Steps.refl _
/-- what holds at the law's entry: the machine, the code, the tables' words (any of lw_tbl by 'hts w (by decide +kernel)'), the script of L ints xs at the cell b, what the Statement gives of the start (any of its parts by flat_of_before) -/
def lw_At (p : Program) (s : State) (m : MethodId) (meth : Method) (c : Code) (b L : Nat) (xs : Nat → Int32) : Prop :=
  p.tables.exec = Jvm.exec ∧ c.code = code ∧ meth.sig.returnType = ret ∧ c.maxLocals = 9 ∧ s.vm.findClass R_law = some m.cls ∧ (∀ w ∈ lw_tbl, w.before #[Value.ref b] s = true) ∧ va_X b L xs s s.heap ∧ b < s.heap.size ∧ meth.locks = false ∧ (Jvm.Cond.and given_1 narrow_1).before #[Value.ref b] s = true
-- ===== YOUR PART BEGINS =====
theorem traces_off9 {l : Launch} (h : l.flags = flags0) : l.stackTraces = false := by
  show (!l.flags.contains noTraceFlag) = false
  rw [h]
  decide +kernel
set_option maxHeartbeats 4000000 in
set_option maxRecDepth 100000 in
/-- THE LAW, from its entry -/
theorem whole_start {p : Program} {e : Env} {s : State} {m : MethodId} {below : List Frame} {meth : Method} {c : Code} (l : Launch) (hflags : l.flags = flags0) {b L : Nat} {xs : Nat → Int32} (hL : L ≤ 2048) (C0 : lw_At p s m meth c b L xs) : W p l e room_1 s m #[Value.ref b] below meth c s.heap [] 0 0 (lw_Z below #[Value.ref b] s) (entryFrame m ([Value.ref b] : List Value).toArray 9) := by
  obtain ⟨hx, hb, hr, hml, hown, hts, hX, hbl, hlocks, hgv⟩ := id C0
  have hlt : l.stackTraces = false := traces_off9 hflags
  have hq : ∀ w ∈ FQ, w.before #[Value.ref b] s = true := flat_of_before _ hgv
  obtain ⟨wa, sw, ad, aK, aV, hIm⟩ := imm_start hq hts
  obtain ⟨sa, hXm⟩ := xim_start hq hts
  have hC3 := nc3_start hq
  have hNw := nw_start hts
  have hCn := cn_start hts
  obtain ⟨dC, dI, cI, cV, cW, cL, hK⟩ := kn_start hts
  have htf : ∀ w ∈ fI wsL_law, w.before #[Value.ref b] s = true := fun w hw => hts w (wsL_law_in w hw)
  have hown : s.vm.findClass RL = some m.cls := hown
  have hA : ∀ q : Nat, s.heap.size ≤ q → Fr s q := fun _ h => h
  have hS : va_S (Fr s) s.heap s.heap [] := va_S.rf
  have hP : va_P (dC, dI) vwCl [] s.heap := fun k q h => by simp at h
  have hD : va_D (Fr s) [] := ⟨fun i j p q h => by simp at h, fun k q h => by simp at h⟩
  refine w_gen hP hS (fun H locs hP hS => ?_)
  have hl := lv_entry ([.ref b]) (n := 9) (Nat.le_of_ble_eq_true rfl)
  rw [lg_entry_eq]
  generalize (lg_sl ([.ref b]) ++ List.replicate (9 - (lg_sl ([.ref b])).length) Slot.unset).toArray = ls at hl ⊢
  replace hl : lv_has ls 9 [(0, .ref b)] := hl
  refine va_new (ci := 3) (fs := [.null, .null, .null, .null, .null, .int 0]) (C := RX5) (T := TX5) (N := 6) hx hb hts wsX50_lw tyX5 tyX5_ok hown (hts (.classLink RL 8 RX5) (by decide +kernel)) (hts (.instantiable RX5 6) (by decide +kernel)) (hts (.initialized RX5) (by decide +kernel)) hK hP hD hS hA rfl (fun j hj => by rcases (show j = 0 ∨ j = 1 ∨ j = 2 ∨ j = 3 ∨ j = 4 ∨ j = 5 by omega) with rfl | rfl | rfl | rfl | rfl | rfl <;> rfl) (Nat.le_of_ble_eq_true rfl) (Nat.le_of_ble_eq_true rfl) dL_law_0 (fun v H hP hD hS => ?_)
  replace hP : va_P (dC, dI) vwCl [(v, .inr (3, [.null, .null, .null, .null, .null, .int 0]))] H := hP
  replace hD : va_D (Fr s) [(v, .inr (3, [.null, .null, .null, .null, .null, .int 0]))] := hD
  refine W.widen (k := 1) (n := 6) (by decide) (by decide) ?_
  refine lv_dup hx hb dL_law_3 rfl ?_
  have hFc := freeW hD hS hA
  refine va_callv (va_runI (As := []) (rest := [.ref v]) ⟨hx, hb, hml, hown, htf⟩ (kX5_init l dC dI cI cV cW H.size v) (cwI 0 htf (gF2 gL_law_X5_init (by decide +kernel)) rfl rfl rfl (hts (.initialized RX5) (by decide +kernel)) (hts (.methodLink RL 76 yX5_init) (by decide +kernel)) (hts (.instanceMethod yX5_init) (by decide +kernel)) rfl (by decide +kernel) ⟨Nat.le_of_ble_eq_true rfl, Nat.le_of_ble_eq_true rfl⟩) (pWc_S (hK.sub [0, 1, 2] rfl) hCn hP hD) rfl rfl hl.1 rfl (lv_room (Nat.le_of_ble_eq_true rfl)) dL_law_4 ⟨Nat.le_of_ble_eq_true rfl, Nat.le_of_ble_eq_true rfl⟩) hS (fun q _ h => hFc q h) hFc (fun u5 t_ H1 locs ht_ hvm_ hw_ hB_ hz_ hk_ hS => ?_)
  obtain ⟨hP1, -, hD1⟩ := hB_
  rw [ht_] at hP1
  have hP : va_P (dC, dI) vwCl (W5 cI cV cW v u5) H1 := hP1
  have hD : va_D (Fr s) (W5 cI cV cW v u5) := hD1.weaken (fun _ q _ h => hFc q.1 h)
  clear hP1 hD1 hFc hk_ hz_ hvm_ ht_ hw_
  generalize H1 = H at hP hS ⊢
  refine lv_astore_n (lv' := [(1, .ref v), (0, .ref b)]) hx hb dL_law_7 rfl hl (by decide) rfl (fun ls hl => ?_)
  refine va_new (ci := 4) (fs := [.int 0, .null, .null, .null, .int 0, .null, .int 0, .int 0, .int (bI false), .null, .int 0, .int 0, .int 0, .int 0, .int (bI false), .long 0]) (C := RX6) (T := TX6) (N := 16) hx hb hts wsX60_lw tyX6 tyX6_ok hown (hts (.classLink RL 77 RX6) (by decide +kernel)) (hts (.instantiable RX6 16) (by decide +kernel)) (hts (.initialized RX6) (by decide +kernel)) hK hP hD hS hA rfl (fun j hj => by rcases (show j = 0 ∨ j = 1 ∨ j = 2 ∨ j = 3 ∨ j = 4 ∨ j = 5 ∨ j = 6 ∨ j = 7 ∨ j = 8 ∨ j = 9 ∨ j = 10 ∨ j = 11 ∨ j = 12 ∨ j = 13 ∨ j = 14 ∨ j = 15 by omega) with rfl | rfl | rfl | rfl | rfl | rfl | rfl | rfl | rfl | rfl | rfl | rfl | rfl | rfl | rfl | rfl <;> rfl) (Nat.le_of_ble_eq_true rfl) (Nat.le_of_ble_eq_true rfl) dL_law_8 (fun o H hP hD hS => ?_)
  refine W.widen (k := 81) (n := 1151) (by decide) (by decide) ?_
  refine lv_dup hx hb dL_law_11 rfl ?_
  have hPc := hP.sub (ws' := [(o, .inr (4, [.int 0, .null, .null, .null, .int 0, .null, .int 0, .int 0, .int (bI false), .null, .int 0, .int 0, .int 0, .int 0, .int (bI false), .long 0]))]) [80] rfl
  have hDc := hD.sub (ws' := [(o, .inr (4, [.int 0, .null, .null, .null, .int 0, .null, .int 0, .int 0, .int (bI false), .null, .int 0, .int 0, .int 0, .int 0, .int (bI false), .long 0]))]) [80] (by decide) rfl
  have hFc := va_free (wc := [(o, .inr (4, [.int 0, .null, .null, .null, .int 0, .null, .int 0, .int 0, .int (bI false), .null, .int 0, .int 0, .int 0, .int 0, .int (bI false), .long 0]))]) hD hS hA [80] rfl
  refine va_callv (va_runI (As := []) (rest := [.ref o]) ⟨hx, hb, hml, hown, htf⟩ (kX6_init l dC dI cI cV cW H.size o) (cwI 0 htf (gF2 gL_law_X6_init (by decide +kernel)) rfl rfl rfl (hts (.initialized RX6) (by decide +kernel)) (hts (.methodLink RL 79 yX6_init) (by decide +kernel)) (hts (.instanceMethod yX6_init) (by decide +kernel)) rfl (by decide +kernel) ⟨Nat.le_of_ble_eq_true rfl, Nat.le_of_ble_eq_true rfl⟩) (pW_S (hK.sub [0, 1, 2] rfl) hPc hDc) rfl rfl hl.1 rfl (lv_room (Nat.le_of_ble_eq_true rfl)) dL_law_12 ⟨Nat.le_of_ble_eq_true rfl, Nat.le_of_ble_eq_true rfl⟩) hS (fun q _ h => hFc q h) hFc (fun u_ t_ H1 locs ht_ hvm_ hw_ hB_ hz_ hk_ hS => ?_)
  obtain ⟨cS, cX, cA, cB, cR⟩ := u_
  obtain ⟨hP1, -, hD1⟩ := hB_
  rw [ht_] at hP1
  obtain ⟨hP, hD⟩ := va_join (wr := W5 cI cV cW v u5) (w1 := W6 cI o cS cX cA cB cR) hP hD [80] [0, 1, 2, 3, 4, 5, 6, 7, 8, 9, 10, 11, 12, 13, 14, 15, 16, 17, 18, 19, 20, 21, 22, 23, 24, 25, 26, 27, 28, 29, 30, 31, 32, 33, 34, 35, 36, 37, 38, 39, 40, 41, 42, 43, 44, 45, 46, 47, 48, 49, 50, 51, 52, 53, 54, 55, 56, 57, 58, 59, 60, 61, 62, 63, 64, 65, 66, 67, 68, 69, 70, 71, 72, 73, 74, 75, 76, 77, 78, 79] rfl rfl (by decide +kernel) (by decide +kernel) hk_ hFc hP1 hD1
  clear hP1 hD1 hPc hDc hFc hk_ hz_ hvm_ ht_ hw_
  generalize H1 = H at hP hS ⊢
  refine lv_astore_n (lv' := [(2, .ref o), (1, .ref v), (0, .ref b)]) hx hb dL_law_15 rfl hl (by decide) rfl (fun ls hl => ?_)
  refine lv_iconst (v := (nI 1)) hx hb dL_law_16 (by decide) ?_
  refine va_newa (atype := .long) hx hb (hts _ (by decide +kernel)) (ty := .long) rfl hK hP hD hS hA (n := nI 1) (N' := 1) (a0 := (1, .inr (.inl (fun _ => 0)))) (fun _ => rfl) (by decide) (nI_clamp (by decide)) (by decide) (Nat.le_of_ble_eq_true rfl) (Nat.le_of_ble_eq_true rfl) dL_law_17 (fun q cB9 H hK1 hP hD hS => ?_)
  have h1 : s.vm.findClass ("[" ++ FieldType.long.toString) = some cL := (hK.2 3 _ rfl).2
  have h2 : s.vm.findClass ("[" ++ FieldType.long.toString) = some cB9 := (hK1.2 4 (cB9, .long) rfl).2
  have h3 : cB9 = cL := Option.some.inj (h2.symm.trans h1)
  subst h3
  rw [LW0] at hP hD
  refine lv_astore_n (lv' := [(3, .ref q), (2, .ref o), (1, .ref v), (0, .ref b)]) hx hb dL_law_19 rfl hl (by decide) rfl (fun ls hl => ?_)
  refine lv_iconst (v := (nI 0)) hx hb dL_law_20 (by decide) ?_
  refine lv_istore (lv' := [(4, .int (nI 0)), (3, .ref q), (2, .ref o), (1, .ref v), (0, .ref b)]) hx hb dL_law_21 hl (by decide) rfl (fun ls hl => ?_)
  refine W.widen (k := 87) (n := 2028) (by decide) (by decide) ?_
  refine law_loop (a := aF v o cS cX cA cB cR q u5) (C := ⟨hx, hb, hml, hown, htf, hX, hbl, hL, hK, hIm, hNw, hXm, hC3, hlt⟩) (fun cells slots H locs ls h1 h2 hS => ?_) 512 0 87 2028 (AF u5) X0 M0 (fun _ => 0) H _ ls ⟨hP, hD, hS, INV0, hl⟩ (Nat.zero_le L) (by omega) (by decide) (by decide)
  refine lv_iconst (v := 1) hx hb dL_law_1467 (by decide) ?_
  refine va_forget (fun q hq => hS.2.2 q hq) ?_
  refine W.widen (k := 601024) (n := 7293034) h1 h2 ?_
  exact W.base (lw_ret (Drawn.sameBut.refl s.drawn lw_cs) hx hb hr hlocks dL_law_1468)
-- ===== YOUR PART ENDS =====
set_option maxHeartbeats 4000000 in
theorem lw_walk (l : Launch) (hflags : l.flags = flags0) (b : Addr) (xs : List Int32) : MetFree l x (headSpec (Jvm.Cond.code x code maxLocals ret :: tables_1) room_1) (lw_P b xs) (fun _ _ _ _ _ => True) lw_Q := by
  refine MetFree.of_bodyS (code := code) (maxLocals := maxLocals) (ret := ret) (by decide) ?_ ?_
  · intro args s m h hn
    obtain ⟨meth, c, h1, h2, h3, h4, h5, h6, -, -⟩ := Cond.code_spec hn (atoms_spec (ws := Jvm.Cond.code x code maxLocals ret :: tables_1) h _ List.mem_cons_self)
    exact ⟨meth, c, h1, h2, h3, h4, h5, h6⟩
  · intro p e s m args below meth c s₁ B hml0 hP _
    obtain ⟨rfl, hx, hbd, hgv⟩ := hP
    obtain ⟨scr, harrAt, hlist, hof, hsmall⟩ := hx
    obtain ⟨hcb, hkn, -, -⟩ := State.arrayAt?_spec harrAt
    have hown : s.vm.findClass R_law = some m.cls := findClass_of_methodNamed B.named
    have hts0 : ∀ c ∈ (Jvm.Cond.code x code maxLocals ret :: tables_1), c.before #[Value.ref b] s = true := atoms_spec (ws := Jvm.Cond.code x code maxLocals ret :: tables_1) B.pre
    have hts : ∀ w ∈ lw_tbl, w.before #[Value.ref b] s = true := k2_hts_sels lw_privs (fun w hw => hts0 w (List.mem_cons_of_mem _ hw)) lw_privs_ok
    have hml : c.maxLocals = 9 := B.maxLocals_eq (hts0 _ List.mem_cons_self)
    have X₀ : Stand p l e room_1 s m #[Value.ref b] below meth c s₁ [] 0 0 := Stand.of_body B
    have hh0 : s₁.heap = s.heap := by rw [B.state]; rfl
    have hsz : scr.slots.size = xs.length := by rw [← Array.length_toList, hlist, List.length_map]
    have hval : ∀ j : Nat, j < xs.length → scr.slots[j]? = some (.int (xs.getD j 0)) := fun j hj => by
      rw [← Array.getElem?_toList, hlist]
      simp [hj]
    have hbl : b < s.heap.size := (Array.getElem?_eq_some_iff.mp hcb).1
    have hX : va_X b xs.length (fun j => xs.getD j 0) s s.heap := ⟨scr, hcb, hof, hkn, hsz, hval⟩
    have K : W p l e room_1 s m #[Value.ref b] below meth c s₁.heap [] 0 0 (lw_Z below #[Value.ref b] s) (entryFrame m ([Value.ref b] : List Value).toArray 9) := by
      rw [hh0]
      exact whole_start l hflags hbd ⟨B.exec, B.bytes, B.returns, hml, hown, hts, hX, hbl, B.notSynchronized, hgv⟩
    obtain ⟨t, a1, o, b1, b2, b3⟩ := K s₁ rfl X₀
    exact ⟨t, o, a1, b1, b2, b3⟩
theorem lw_pre_spec {args : Array Value} {s : State} (h : (Jvm.Cond.and given_1 narrow_1).before args s = true) (hr : rest_1_c.before args s = true) : ∃ (b : Addr) (xs : List Int32), lw_P b xs args s := by
  have hs := flat_of_before _ h
  have hq := flat_of_before _ hr
  have hc : (Cond.count 1).before args s = true := hs _ (by decide +kernel)
  have harr : (Cond.arrayOf (.arg 0) .int).before args s = true := hs _ (by decide +kernel)
  have hle : (Cond.le (.length (.arg 0)) (.int 2048)).before args s = true := hs _ (by decide +kernel)
  have hlen : (Cond.isInt (.length (.arg 0))).before args s = true := hq _ (by decide +kernel)
  have hall : (Cond.all (.arg 0) (.isInt (.elem (.arg 0) (.index 0)))).before args s = true := hq _ (by decide +kernel)
  obtain ⟨b, xs, hb, hx⟩ := State.ints_of_pre rfl harr hlen hall
  have hsm : xs.length < 2 ^ 31 := hx.choose_spec.2.2.2
  have hev : (Term.length (.arg 0)).eval args s none [] s = some (.int xs.length.toInt32) := hx.length_eval hb
  have hv := Cond.le_ints hev (show (Term.int 2048).eval args s none [] s = some (.int 2048) from rfl)
  have hd : xs.length.toInt32 ≤ 2048 := by
    simpa [Cond.before, Cond.holds, hv] using hle
  have hN : xs.length ≤ 2048 := (Int32.ofNat_le_ofNat hsm (by decide)).mp (show Int32.ofNat xs.length ≤ Int32.ofNat 2048 from hd)
  exact ⟨b, xs, Cond.one_arg hc (show args[0]? = some (.ref b) from hb), hx, hN, h⟩
theorem lw_comes (l : Launch) (hflags : l.flags = flags0) : Comes l x (Jvm.Cond.code x code maxLocals ret :: tables_1) room_1 (fun tb e args s => Calls_1 tb e args s ∧ rest_1 tb e args s ∧ Pre_1 tb e args s)
    (fun _ _ args s o t => lw_Q args s o t) := by
  intro p e ha hc hk s m args below hf hfit hheap happ hpre
  obtain ⟨b, xs, hP⟩ := lw_pre_spec hpre.2.2 hpre.2.1
  obtain ⟨k, o, h1, h2, h3, hQ⟩ := lw_walk l hflags b xs p e ha hc hk s m args below hf ((Spec.applies_iff_loose hf).mp happ).1 hP trivial
  exact ⟨k, o, h1, h2, h3, hQ⟩
theorem lw_frame {s t : State} {o : Outcome} {args : Array Value} (h : State.butDraws s t lw_cs (fun t1 => Framed s o t1 [] 601024 7293034)) :
    State.butDraws s t [Jvm.Choice.named "NaN.bits"] (fun t1 => Framed s o t1 (fieldLocs frame_1_writes args s ++ arrayLocs frame_1_arrays args s ++ staticLocs frame_1_statics s) 601024 7293034) := h
theorem lw_limb (L : Cond) (hL : ∀ (args : Array Value) (s t : State), L.after args s (.returned (some (.int 1))) t = true) :
    ArmFor flags0 classFile x code maxLocals ret World_1 tables_1 room_1 Calls_1 rest_1 Pre_1
      (fun tb e a s o t => postC L tb e a s o t ∧ State.butDraws s t [Jvm.Choice.named "NaN.bits"] (fun t1 => Framed s o t1 (fieldLocs frame_1_writes a s ++ arrayLocs frame_1_arrays a s ++ staticLocs frame_1_statics s) 601024 7293034)) := by
  intro l hflags _ _ p e ha hc hk s m args below hf hfit hheap happ hpre
  obtain ⟨k, o, h1, h2, h3, rfl, hF⟩ := lw_comes l hflags p e ha hc hk s m args below hf hfit hheap happ hpre
  exact ⟨k, _, h1, h2, h3, hL args s _, lw_frame hF⟩
theorem i_vc : Claimed_1_1 ∧ Claimed_1_2 := ⟨lw_limb limb_1_1 (fun args s t => by simp [limb_1_1, Cond.after, Cond.holds, Cond.value]), lw_limb limb_1_2 (fun args s t => Cond.after_iff.mpr (by
  first | (rw [show limb_1_2 = Cond.eq .result (.int 1) from rfl, Cond.eq_ints (x := 1) (y := 1) rfl rfl]; simp; done) | (simp [limb_1_2, Cond.value, Term.eval]; done)))⟩

