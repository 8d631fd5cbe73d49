section LAWCASES4
variable {p : Program} {l : Launch} {e : Env} {s : State} {m : MethodId} {args : Array Value} {below : List Frame} {meth : Method} {c : Code} {H : Heap} {locs : List Loc} {cells slots : Nat} {Q : State → Prop} {ls : Array Slot}
variable {dC : Nat → ClassId} {dI : Nat → Nat → Nat} {cI cV cW cL : ClassId} {wa sw : Nat} {ad aK aV : Nat → Nat} {sa : Nat → Nat} {a : Nat → Nat} {A : Nat → Nat → Nat} {b0 L i : Nat} {xs : Nat → Int32} {X : XS} {M : MS} {ou : Nat → Int64}
theorem hdX5_firstError : yX5_firstError.cls = RX5 ∧ yX5_firstError.cls ≠ "java/lang/invoke/MethodHandle" ∧ yX5_firstError.cls ≠ "java/lang/invoke/VarHandle" ∧ (parseMethodDescriptor yX5_firstError.desc).map (fun d => d.parameters.length) = some 0 := by decide +kernel
theorem hdX6_firstError : yX6_firstError.cls = RX6 ∧ yX6_firstError.cls ≠ "java/lang/invoke/MethodHandle" ∧ yX6_firstError.cls ≠ "java/lang/invoke/VarHandle" ∧ (parseMethodDescriptor yX6_firstError.desc).map (fun d => d.parameters.length) = some 0 := by decide +kernel
set_option maxHeartbeats 4000000 in
set_option maxRecDepth 100000 in
theorem LC_firstError (C : LC0 p l s m args c b0 L xs dC dI cI cV cW cL wa sw ad aK aV sa) (hi : i + 3 < L) (hcl : cells + 3 ≤ 601024) (hsl : slots + 18 ≤ 7293034) (h : LST s dC dI cI cV cW cL a A X M ou H locs b0 i ls) (kk : ∀ (A : Nat → Nat → Nat) (X : XS) (M : MS) (ou : Nat → Int64) (H : Heap) (locs : List Loc) (ls : Array Slot), LST s dC dI cI cV cW cL a A X M ou H locs b0 i ls → W p l e room_1 s m args below meth c H locs (cells + 3) (slots + 18) Q (F0 m 1461 ls [])) : W p l e room_1 s m args below meth c H locs cells slots Q (F0 m 1333 ls []) := by
  obtain ⟨hx, hb, hml, hown, hts, hX, hbl, hL, hK, hIm, hNw, hXm, hC3, hlt⟩ := C
  obtain ⟨hP, hD, hS, hI, hl⟩ := h
  obtain ⟨K, b, n, T⟩ := X
  obtain ⟨th, sm, ln, at_, wl, rm, q, ha, Rw⟩ := M
  have hV : RV (Rw 0) (K 6).1 (K 6).2.1 (K 6).2.2.1 ((K 6).2.2.2 0) ((K 6).2.2.2 1) ((K 6).2.2.2 2) ((K 6).2.2.2 3) ((K 6).2.2.2 4) ((K 6).2.2.2 5) ((K 6).2.2.2 6) ((K 6).2.2.2 7) := hI.1
  have hn6 : n ≤ 6 := hI.2.1
  have hsm : sm = n := hI.2.2.1
  have hsm6 : sm ≤ 6 := by omega
  have hSR : SR (Rw 2) K n := hI.2.2.2.1
  have hnn : T.1 ≤ 60 := hI.2.2.2.2.1
  have hln : ln = T.1 := hI.2.2.2.2.2.1
  have hln6 : ln ≤ 60 := by omega
  have hBu : Rw 3 = T.2.2.2.1 := hI.2.2.2.2.2.2
  have hA : ∀ q : Nat, s.heap.size ≤ q → Fr s q := fun _ h => h
  have hbA : ¬ Fr s b0 := Nat.not_le.mpr hbl
  have hrd := rd_eq (ad := ad) (B := T.2.2.2.1) (n := T.1) hnn T.2.2.2.2.1 T.2.2.2.2.2.1 T.2.2.2.2.2.2 (Rw 4)
  refine lv_aload_n hx hb dL_law_1333 rfl (lv_at hl 3 rfl) ?_
  have hFc := freeW hD hS hA
  refine va_calli (va_runV (As := []) (rest := []) ⟨hx, hb, hml, hown, hts⟩ (bX5_firstError l dC dI cI cV cW cL wa sw ad aK aV sa H.size a A K b n T (th, sm, ln, at_, wl, rm, q, ha, Rw) ou hnn) (cwV 0 hts (gFV gL_law_X5_firstError rfl) rfl rfl rfl hdX5_firstError ⟨Nat.le_of_ble_eq_true rfl, Nat.le_of_ble_eq_true rfl⟩) (pL_V (A := Fr s) hK (imW hIm hS hFc) hNw (hXm.at hS hFc) hC3 hP hD 0 3 rfl rfl rfl) rfl rfl hl.1 rfl (lv_room (Nat.le_of_ble_eq_true rfl)) dL_law_1334 ⟨Nat.le_trans (by omega) hcl, Nat.le_trans (by omega) hsl⟩) hS (fun q _ h => hFc q h) hFc (fun r_1 u_ t_ H1 locs ht_ hvm_ hw1 hB_ hz_ hk_ hS => ?_)
  obtain ⟨hP1, hD1⟩ := hB_
  rw [ht_] at hP1
  have hP := hP1
  have hD := hD1.weaken (fun _ q _ h => hFc q.1 h)
  clear hP1 hD1 hFc hk_ hz_ hvm_ ht_ u_
  generalize H1 = H at hP hS ⊢
  refine lv_aload_n hx hb dL_law_1337 rfl (lv_at hl 2 rfl) ?_
  have hFc := freeW hD hS hA
  refine va_calli (va_runV (As := []) (rest := [.int r_1]) ⟨hx, hb, hml, hown, hts⟩ (aX6_firstError l dC dI cI cV cW cL wa sw ad aK aV sa H.size a A (K, b, n, (T.1, (nI ((cLp ad T.2.2.2.1 T.1 60 0 ((true, 0), T.2.2.2.2.1, T.2.2.2.2.2.1, T.2.2.2.2.2.2)).2)), (nI ((cLp ad T.2.2.2.1 T.1 60 0 ((true, 0), T.2.2.2.2.1, T.2.2.2.2.2.1, T.2.2.2.2.2.2)).1.1.2)), T.2.2.2.1, (cLp ad T.2.2.2.1 T.1 60 0 ((true, 0), T.2.2.2.2.1, T.2.2.2.2.2.1, T.2.2.2.2.2.2)).1.2.1, (cLp ad T.2.2.2.1 T.1 60 0 ((true, 0), T.2.2.2.2.1, T.2.2.2.2.2.1, T.2.2.2.2.2.2)).1.2.2.1, (cLp ad T.2.2.2.1 T.1 60 0 ((true, 0), T.2.2.2.2.1, T.2.2.2.2.2.1, T.2.2.2.2.2.2)).1.2.2.2)) th sm ln at_ wl rm q ha Rw ou  hln6) (cwV 0 hts (gF2 gL_law_X6_firstError (by decide +kernel)) rfl rfl rfl hdX6_firstError ⟨Nat.le_of_ble_eq_true rfl, Nat.le_of_ble_eq_true rfl⟩) (pL_V (A := Fr s) hK (imW hIm hS hFc) hNw (hXm.at hS hFc) hC3 hP hD 80 4 rfl rfl rfl) rfl rfl hl.1 rfl (lv_room (Nat.le_of_ble_eq_true rfl)) dL_law_1338 ⟨Nat.le_trans (by omega) hcl, Nat.le_trans (by omega) hsl⟩) hS (fun q _ h => hFc q h) hFc (fun r_2 u2_ t_ H1 locs ht_ hvm_ hw2 hB_ hz_ hk_ hS => ?_)
  obtain ⟨hP1, hD1⟩ := hB_
  rw [ht_] at hP1
  have hP := hP1
  have hD := hD1.weaken (fun _ q _ h => hFc q.1 h)
  clear hP1 hD1 hFc hk_ hz_ hvm_ ht_ u2_
  generalize H1 = H at hP hS ⊢
  have hv : r_1 = r_2 := by
    rw [hw1, hw2, hln, hBu]
    split
    · rename_i e
      rw [(hrd.2.2.1 e).1]
    · rename_i e
      rw [hrd.2.1 (by revert e; cases (rRd T.2.2.2.1 T.1 (Rw 4)).2.1.1 <;> simp)]
  refine lv_icmp_eq (tgt := 1461) hx hb dL_law_1341 (by decide) (fun _ => ?_) (fun q => absurd hv q)
  refine W.widen (k := cells + 3) (n := slots + 18) (by omega) (by omega) ?_
  exact kk A (K, b, n, (T.1, (nI ((cLp ad T.2.2.2.1 T.1 60 0 ((true, 0), T.2.2.2.2.1, T.2.2.2.2.2.1, T.2.2.2.2.2.2)).2)), (nI ((cLp ad T.2.2.2.1 T.1 60 0 ((true, 0), T.2.2.2.2.1, T.2.2.2.2.2.1, T.2.2.2.2.2.2)).1.1.2)), T.2.2.2.1, (cLp ad T.2.2.2.1 T.1 60 0 ((true, 0), T.2.2.2.2.1, T.2.2.2.2.2.1, T.2.2.2.2.2.2)).1.2.1, (cLp ad T.2.2.2.1 T.1 60 0 ((true, 0), T.2.2.2.2.1, T.2.2.2.2.2.1, T.2.2.2.2.2.2)).1.2.2.1, (cLp ad T.2.2.2.1 T.1 60 0 ((true, 0), T.2.2.2.2.1, T.2.2.2.2.2.1, T.2.2.2.2.2.2)).1.2.2.2)) ((nI 0), sm, ln, (nI ((rRd (Rw 3) ln (Rw 4)).2.1.2)), (rRd (Rw 3) ln (Rw 4)).2.1.1, (nI ((rRd (Rw 3) ln (Rw 4)).2.2)), q, ha, mk5 (Rw 0) (Rw 1) (Rw 2) (Rw 3) ((rRd (Rw 3) ln (Rw 4)).1)) ou H locs ls ⟨hP, hD, hS, ⟨hI.1, hI.2.1, hI.2.2.1, hI.2.2.2.1, hnn, hln, hBu⟩, hl⟩
theorem hdL_run : yL_run.cls ≠ "java/lang/invoke/MethodHandle" ∧ yL_run.cls ≠ "java/lang/invoke/VarHandle" ∧ (parseMethodDescriptor yL_run.desc).map (fun d => d.parameters.length) = some 2 := by decide +kernel
theorem hdX6_run : yX6_run.cls = RX6 ∧ yX6_run.cls ≠ "java/lang/invoke/MethodHandle" ∧ yX6_run.cls ≠ "java/lang/invoke/VarHandle" ∧ (parseMethodDescriptor yX6_run.desc).map (fun d => d.parameters.length) = some 0 := by decide +kernel
set_option maxHeartbeats 4000000 in
set_option maxRecDepth 100000 in
theorem LC_run (C : LC0 p l s m args c b0 L xs dC dI cI cV cW cL wa sw ad aK aV sa) (hi : i + 3 < L) (hcl : cells + 3 ≤ 601024) (hsl : slots + 18 ≤ 7293034) (h : LST s dC dI cI cV cW cL a A X M ou H locs b0 i ls) (kk : ∀ (A : Nat → Nat → Nat) (X : XS) (M : MS) (ou : Nat → Int64) (H : Heap) (locs : List Loc) (ls : Array Slot), LST s dC dI cI cV cW cL a A X M ou H locs b0 i ls → W p l e room_1 s m args below meth c H locs (cells + 3) (slots + 18) Q (F0 m 1461 ls [])) : W p l e room_1 s m args below meth c H locs cells slots Q (F0 m 1346 ls []) := by
  obtain ⟨hx, hb, hml, hown, hts, hX, hbl, hL, hK, hIm, hNw, hXm, hC3, hlt⟩ := C
  obtain ⟨hP, hD, hS, hI, hl⟩ := h
  obtain ⟨K, b, n, T⟩ := X
  obtain ⟨th, sm, ln, at_, wl, rm, q, ha, Rw⟩ := M
  have hV : RV (Rw 0) (K 6).1 (K 6).2.1 (K 6).2.2.1 ((K 6).2.2.2 0) ((K 6).2.2.2 1) ((K 6).2.2.2 2) ((K 6).2.2.2 3) ((K 6).2.2.2 4) ((K 6).2.2.2 5) ((K 6).2.2.2 6) ((K 6).2.2.2 7) := hI.1
  have hn6 : n ≤ 6 := hI.2.1
  have hsm : sm = n := hI.2.2.1
  have hsm6 : sm ≤ 6 := by omega
  have hSR : SR (Rw 2) K n := hI.2.2.2.1
  have hnn : T.1 ≤ 60 := hI.2.2.2.2.1
  have hln : ln = T.1 := hI.2.2.2.2.2.1
  have hln6 : ln ≤ 60 := by omega
  have hBu : Rw 3 = T.2.2.2.1 := hI.2.2.2.2.2.2
  have hA : ∀ q : Nat, s.heap.size ≤ q → Fr s q := fun _ h => h
  have hbA : ¬ Fr s b0 := Nat.not_le.mpr hbl
  have hrd := rd_eq (ad := ad) (B := T.2.2.2.1) (n := T.1) hnn T.2.2.2.2.1 T.2.2.2.2.2.1 T.2.2.2.2.2.2 (Rw 4)
  refine lv_aload_n hx hb dL_law_1346 rfl (lv_at hl 3 rfl) ?_
  refine lv_aload_n hx hb dL_law_1347 rfl (lv_at hl 1 rfl) ?_
  have hFc := freeW hD hS hA
  refine va_calli (vx_runSW (hh := [(0, 8, 11, 15)]) (As := [.ref (a 0), .ref (a 14)]) (rest := []) ⟨hx, hb, hml, hown, hts⟩ (hL_run l dC dI cI cV cW cL wa sw ad aK aV sa H.size a A hlt K b n T (th, sm, ln, at_, wl, rm, q, ha, Rw) ou (fun j => ix ((rRd T.2.2.2.1 T.1 (Rw 4)).1 (3 * j)) - 1) hV.vo hnn hrd.2.2.2 (fun e i hi => ((hrd.2.2.1 (hrd.1.symm.trans e)).2.2 i (by rw [← (hrd.2.2.1 (hrd.1.symm.trans e)).2.1]; exact hi)).w) hn6) (vx_cwSW 2 hts (gFS gL_law_L_run rfl) rfl rfl rfl hdL_run ⟨Nat.le_of_ble_eq_true rfl, Nat.le_of_ble_eq_true rfl⟩) (pL_S (A := Fr s) hK (imW hIm hS hFc) hNw (hXm.at hS hFc) hC3 hP hD) rfl rfl hl.1 rfl (lv_room (Nat.le_of_ble_eq_true rfl)) dL_law_1348 ⟨Nat.le_trans (by omega) hcl, Nat.le_trans (by omega) hsl⟩) hS (fun q _ h => hFc q h) hFc (fun r_1 u_ t_ H1 locs ht_ hvm_ hw1 hB_ hz_ hk_ hS => ?_)
  obtain ⟨hP1, hD1⟩ := hB_
  rw [ht_] at hP1
  have pl := PL_run (ad := ad) rfl hI hw1
  have hP := hP1
  have hD := hD1.weaken (fun _ q _ h => hFc q.1 h)
  clear hP1 hD1 hFc hk_ hz_ hvm_ ht_ hw1
  generalize H1 = H at hP hS ⊢
  obtain ⟨A1, X1, ou1⟩ := u_
  refine lv_istore (lv' := [(5, .int r_1), (4, .int (nI i)), (3, .ref (a 14)), (2, .ref (a 8)), (1, .ref (a 0)), (0, .ref b0)]) hx hb dL_law_1351 hl (by decide) rfl (fun ls hl => ?_)
  refine lv_aload_n hx hb dL_law_1353 rfl (lv_at hl 3 rfl) ?_
  have hFc := freeW hD hS hA
  refine va_calli (va_runV (As := []) (rest := []) ⟨hx, hb, hml, hown, hts⟩ (aX6_run l dC dI cI cV cW cL wa sw ad aK aV sa H.size a A1 X1 th sm ln at_ wl rm q ha Rw ou1 (K 6).1 hV.ro hsm6 hln6) (cwV 0 hts (gF2 gL_law_X6_run (by decide +kernel)) rfl rfl rfl hdX6_run ⟨Nat.le_of_ble_eq_true rfl, Nat.le_of_ble_eq_true rfl⟩) (pL_V (A := Fr s) hK (imW hIm hS hFc) hNw (hXm.at hS hFc) hC3 hP hD 80 4 rfl rfl rfl) rfl rfl hl.1 rfl (lv_room (Nat.le_of_ble_eq_true rfl)) dL_law_1354 ⟨Nat.le_trans (by omega) hcl, Nat.le_trans (by omega) hsl⟩) hS (fun q _ h => hFc q h) hFc (fun r_2 u2_ t_ H1 locs ht_ hvm_ hw2 hB_ hz_ hk_ hS => ?_)
  obtain ⟨hP1, hD1⟩ := hB_
  rw [ht_] at hP1
  have hP := hP1
  have hD := hD1.weaken (fun _ q _ h => hFc q.1 h)
  clear hP1 hD1 hFc hk_ hz_ hvm_ ht_ u2_
  generalize H1 = H at hP hS ⊢
  refine lv_istore (lv' := [(6, .int r_2), (5, .int r_1), (4, .int (nI i)), (3, .ref (a 14)), (2, .ref (a 8)), (1, .ref (a 0)), (0, .ref b0)]) hx hb dL_law_1357 hl (by decide) rfl (fun ls hl => ?_)
  refine lv_aload_n hx hb dL_law_1359 rfl (lv_at hl 4 rfl) ?_
  have hFc := freeW hD hS hA
  refine va_calli (va_runV (As := []) (rest := []) ⟨hx, hb, hml, hown, hts⟩ (aX6_thrown l dC dI cI cV cW cL wa sw ad aK aV sa H.size a A1 X1 ((nI (if (rRd (Rw 3) ln (Rw 4)).2.1.1 = true then 0 else 1))) (if (rRd (Rw 3) ln (Rw 4)).2.1.1 = true then svN sm else sm) (if (rRd (Rw 3) ln (Rw 4)).2.1.1 = true then 0 else ln) ((nI ((rRd (Rw 3) ln (Rw 4)).2.1.2))) ((rRd (Rw 3) ln (Rw 4)).2.1.1) ((nI ((rRd (Rw 3) ln (Rw 4)).2.2))) (((if (rRd (Rw 3) ln (Rw 4)).2.1.1 = true then (rGo (rRd (Rw 3) ln (Rw 4)).1 (rRd (Rw 3) ln (Rw 4)).2.2 0 ((Rw 0), (K 6).1, q)).2.2.2.1 else q.1), (if (rRd (Rw 3) ln (Rw 4)).2.1.1 = true then (rGo (rRd (Rw 3) ln (Rw 4)).1 (rRd (Rw 3) ln (Rw 4)).2.2 0 ((Rw 0), (K 6).1, q)).2.2.2.2.1 else q.2.1), (if (rRd (Rw 3) ln (Rw 4)).2.1.1 = true then (rGo (rRd (Rw 3) ln (Rw 4)).1 (rRd (Rw 3) ln (Rw 4)).2.2 0 ((Rw 0), (K 6).1, q)).2.2.2.2.2.1 else q.2.2.1), if (rRd (Rw 3) ln (Rw 4)).2.1.1 = true then (rGo (rRd (Rw 3) ln (Rw 4)).1 (rRd (Rw 3) ln (Rw 4)).2.2 0 ((Rw 0), (K 6).1, q)).2.2.2.2.2.2 else q.2.2.2)) (ha) (mk5 (if (rRd (Rw 3) ln (Rw 4)).2.1.1 = true then (rGo (rRd (Rw 3) ln (Rw 4)).1 (rRd (Rw 3) ln (Rw 4)).2.2 0 ((Rw 0), (K 6).1, q)).2.1 else (Rw 0)) (Rw 1) (if (rRd (Rw 3) ln (Rw 4)).2.1.1 = true then svV (Rw 0) (Rw 2) sm else (Rw 2)) (Rw 3) ((rRd (Rw 3) ln (Rw 4)).1)) ou1) (cwV 0 hts (gF2 gL_law_X6_thrown (by decide +kernel)) rfl rfl rfl hdX6_thrown ⟨Nat.le_of_ble_eq_true rfl, Nat.le_of_ble_eq_true rfl⟩) (pL_V (A := Fr s) hK (imW hIm hS hFc) hNw (hXm.at hS hFc) hC3 hP hD 80 4 rfl rfl rfl) rfl rfl hl.1 rfl (lv_room (Nat.le_of_ble_eq_true rfl)) dL_law_1360 ⟨Nat.le_trans (by omega) hcl, Nat.le_trans (by omega) hsl⟩) hS (fun q _ h => hFc q h) hFc (fun r_3 u3_ t_ H1 locs ht_ hvm_ hw3 hB_ hz_ hk_ hS => ?_)
  obtain ⟨hP1, hD1⟩ := hB_
  rw [ht_] at hP1
  have hP := hP1
  have hD := hD1.weaken (fun _ q _ h => hFc q.1 h)
  clear hP1 hD1 hFc hk_ hz_ hvm_ ht_ u3_
  generalize H1 = H at hP hS ⊢
  have fin : W p l e room_1 s m args below meth c H locs (cells + 1 + 0 + 0) (slots + 6 + 0 + 0) Q (F0 m 1387 ls []) := by
    refine lv_goto (tgt := 1461) hx hb dL_law_1387 (by decide) ?_
    refine W.widen (k := cells + 3) (n := slots + 18) (by omega) (by omega) ?_
    exact kk A1 X1 _ ou1 H locs ls ⟨hP, hD, hS, pl.2.2, lv_sub hl [2, 3, 4, 5, 6] rfl⟩
  refine lv_iload hx hb dL_law_1363 (lv_at hl 1 rfl) ?_
  refine lv_icmp_eq (tgt := 1370) hx hb dL_law_1365 (by decide) (fun _ => ?_) (fun c9 => absurd (hw3.trans pl.1.symm) c9)
  refine lv_iload hx hb dL_law_1370 (lv_at hl 1 rfl) ?_
  refine lv_if_ne (tgt := 1387) hx hb dL_law_1372 (by decide) (fun _ => fin) (fun c9 => ?_)
  refine lv_aload_n hx hb dL_law_1375 rfl (lv_at hl 3 rfl) ?_
  refine lv_iconst (v := (nI 0)) hx hb dL_law_1376 (by decide) ?_
  refine va_lald hx hb hK hP 86 3 rfl rfl (vp_in_nI (by decide) (by decide)) dL_law_1377 ?_
  refine lv_iload hx hb dL_law_1378 (lv_at hl 0 rfl) ?_
  refine lv_i2l (v := r_2.toInt64) hx hb dL_law_1380 rfl ?_
  exact n_lcmp hx hb (by rw [nI_clamp (by decide), hw2]; exact pl.2.1 (c9.trans nI_0.symm)) dL_law_1381 dL_law_1382 (by decide) fin
theorem hdL_undo : yL_undo.cls ≠ "java/lang/invoke/MethodHandle" ∧ yL_undo.cls ≠ "java/lang/invoke/VarHandle" ∧ (parseMethodDescriptor yL_undo.desc).map (fun d => d.parameters.length) = some 2 := by decide +kernel
theorem hdX6_undo : yX6_undo.cls = RX6 ∧ yX6_undo.cls ≠ "java/lang/invoke/MethodHandle" ∧ yX6_undo.cls ≠ "java/lang/invoke/VarHandle" ∧ (parseMethodDescriptor yX6_undo.desc).map (fun d => d.parameters.length) = some 0 := by decide +kernel
set_option maxHeartbeats 4000000 in
set_option maxRecDepth 100000 in
theorem LC_undo (C : LC0 p l s m args c b0 L xs dC dI cI cV cW cL wa sw ad aK aV sa) (hi : i + 3 < L) (hcl : cells + 3 ≤ 601024) (hsl : slots + 18 ≤ 7293034) (h : LST s dC dI cI cV cW cL a A X M ou H locs b0 i ls) (kk : ∀ (A : Nat → Nat → Nat) (X : XS) (M : MS) (ou : Nat → Int64) (H : Heap) (locs : List Loc) (ls : Array Slot), LST s dC dI cI cV cW cL a A X M ou H locs b0 i ls → W p l e room_1 s m args below meth c H locs (cells + 3) (slots + 18) Q (F0 m 1461 ls [])) : W p l e room_1 s m args below meth c H locs cells slots Q (F0 m 1390 ls []) := by
  obtain ⟨hx, hb, hml, hown, hts, hX, hbl, hL, hK, hIm, hNw, hXm, hC3, hlt⟩ := C
  obtain ⟨hP, hD, hS, hI, hl⟩ := h
  obtain ⟨K, b, n, T⟩ := X
  obtain ⟨th, sm, ln, at_, wl, rm, q, ha, Rw⟩ := M
  have hV : RV (Rw 0) (K 6).1 (K 6).2.1 (K 6).2.2.1 ((K 6).2.2.2 0) ((K 6).2.2.2 1) ((K 6).2.2.2 2) ((K 6).2.2.2 3) ((K 6).2.2.2 4) ((K 6).2.2.2 5) ((K 6).2.2.2 6) ((K 6).2.2.2 7) := hI.1
  have hn6 : n ≤ 6 := hI.2.1
  have hsm : sm = n := hI.2.2.1
  have hsm6 : sm ≤ 6 := by omega
  have hSR : SR (Rw 2) K n := hI.2.2.2.1
  have hnn : T.1 ≤ 60 := hI.2.2.2.2.1
  have hln : ln = T.1 := hI.2.2.2.2.2.1
  have hln6 : ln ≤ 60 := by omega
  have hBu : Rw 3 = T.2.2.2.1 := hI.2.2.2.2.2.2
  have hA : ∀ q : Nat, s.heap.size ≤ q → Fr s q := fun _ h => h
  have hbA : ¬ Fr s b0 := Nat.not_le.mpr hbl
  refine lv_aload_n hx hb dL_law_1390 rfl (lv_at hl 3 rfl) ?_
  refine lv_aload_n hx hb dL_law_1391 rfl (lv_at hl 1 rfl) ?_
  have hFc := freeW hD hS hA
  refine va_calli (vx_runSW (hh := [(0, 8, 11, 17)]) (As := [.ref (a 0), .ref (a 14)]) (rest := []) ⟨hx, hb, hml, hown, hts⟩ (hL_undo l dC dI cI cV cW cL wa sw ad aK aV sa H.size a A hlt K b n T (th, sm, ln, at_, wl, rm, q, ha, Rw) ou  hn6) (vx_cwSW 2 hts (gF2 gL_law_L_undo (by decide +kernel)) rfl rfl rfl hdL_undo ⟨Nat.le_of_ble_eq_true rfl, Nat.le_of_ble_eq_true rfl⟩) (pL_S (A := Fr s) hK (imW hIm hS hFc) hNw (hXm.at hS hFc) hC3 hP hD) rfl rfl hl.1 rfl (lv_room (Nat.le_of_ble_eq_true rfl)) dL_law_1392 ⟨Nat.le_trans (by omega) hcl, Nat.le_trans (by omega) hsl⟩) hS (fun q _ h => hFc q h) hFc (fun r_1 u_ t_ H1 locs ht_ hvm_ hw1 hB_ hz_ hk_ hS => ?_)
  obtain ⟨hP1, hD1⟩ := hB_
  rw [ht_] at hP1
  have pl := PL_undo hI hw1
  have hP := hP1
  have hD := hD1.weaken (fun _ q _ h => hFc q.1 h)
  clear hP1 hD1 hFc hk_ hz_ hvm_ ht_ hw1
  generalize H1 = H at hP hS ⊢
  obtain ⟨A1, X1, ou1⟩ := u_
  refine lv_istore (lv' := [(5, .int r_1), (4, .int (nI i)), (3, .ref (a 14)), (2, .ref (a 8)), (1, .ref (a 0)), (0, .ref b0)]) hx hb dL_law_1395 hl (by decide) rfl (fun ls hl => ?_)
  refine lv_aload_n hx hb dL_law_1397 rfl (lv_at hl 3 rfl) ?_
  have hFc := freeW hD hS hA
  refine va_calli (va_runV (As := []) (rest := []) ⟨hx, hb, hml, hown, hts⟩ (aX6_undo l dC dI cI cV cW cL wa sw ad aK aV sa H.size a A1 X1 th sm ln at_ wl rm q ha Rw ou1  hsm6) (cwV 0 hts (gF2 gL_law_X6_undo (by decide +kernel)) rfl rfl rfl hdX6_undo ⟨Nat.le_of_ble_eq_true rfl, Nat.le_of_ble_eq_true rfl⟩) (pL_V (A := Fr s) hK (imW hIm hS hFc) hNw (hXm.at hS hFc) hC3 hP hD 80 4 rfl rfl rfl) rfl rfl hl.1 rfl (lv_room (Nat.le_of_ble_eq_true rfl)) dL_law_1398 ⟨Nat.le_trans (by omega) hcl, Nat.le_trans (by omega) hsl⟩) hS (fun q _ h => hFc q h) hFc (fun r_2 u2_ t_ H1 locs ht_ hvm_ hw2 hB_ hz_ hk_ hS => ?_)
  obtain ⟨hP1, hD1⟩ := hB_
  rw [ht_] at hP1
  have hP := hP1
  have hD := hD1.weaken (fun _ q _ h => hFc q.1 h)
  clear hP1 hD1 hFc hk_ hz_ hvm_ ht_ u2_
  generalize H1 = H at hP hS ⊢
  refine lv_istore (lv' := [(6, .int r_2), (5, .int r_1), (4, .int (nI i)), (3, .ref (a 14)), (2, .ref (a 8)), (1, .ref (a 0)), (0, .ref b0)]) hx hb dL_law_1401 hl (by decide) rfl (fun ls hl => ?_)
  refine lv_aload_n hx hb dL_law_1403 rfl (lv_at hl 4 rfl) ?_
  have hFc := freeW hD hS hA
  refine va_calli (va_runV (As := []) (rest := []) ⟨hx, hb, hml, hown, hts⟩ (aX6_thrown l dC dI cI cV cW cL wa sw ad aK aV sa H.size a A1 X1 ((nI (if sm = 0 then 1 else 0))) (sm - 1) (ln) (at_) (wl) (rm) (q) (ha) (mk5 (if sm = 0 then (Rw 0) else fGet (Rw 2) (Rw 0) (96 * (sm - 1)) 96) (Rw 1) (Rw 2) (Rw 3) (Rw 4)) ou1) (cwV 0 hts (gF2 gL_law_X6_thrown (by decide +kernel)) rfl rfl rfl hdX6_thrown ⟨Nat.le_of_ble_eq_true rfl, Nat.le_of_ble_eq_true rfl⟩) (pL_V (A := Fr s) hK (imW hIm hS hFc) hNw (hXm.at hS hFc) hC3 hP hD 80 4 rfl rfl rfl) rfl rfl hl.1 rfl (lv_room (Nat.le_of_ble_eq_true rfl)) dL_law_1404 ⟨Nat.le_trans (by omega) hcl, Nat.le_trans (by omega) hsl⟩) hS (fun q _ h => hFc q h) hFc (fun r_3 u3_ t_ H1 locs ht_ hvm_ hw3 hB_ hz_ hk_ hS => ?_)
  obtain ⟨hP1, hD1⟩ := hB_
  rw [ht_] at hP1
  have hP := hP1
  have hD := hD1.weaken (fun _ q _ h => hFc q.1 h)
  clear hP1 hD1 hFc hk_ hz_ hvm_ ht_ u3_
  generalize H1 = H at hP hS ⊢
  have fin : W p l e room_1 s m args below meth c H locs (cells + 1 + 0 + 0) (slots + 6 + 0 + 0) Q (F0 m 1431 ls []) := by
    refine lv_goto (tgt := 1461) hx hb dL_law_1431 (by decide) ?_
    refine W.widen (k := cells + 3) (n := slots + 18) (by omega) (by omega) ?_
    exact kk A1 X1 _ ou1 H locs ls ⟨hP, hD, hS, pl.2.2, lv_sub hl [2, 3, 4, 5, 6] rfl⟩
  refine lv_iload hx hb dL_law_1407 (lv_at hl 1 rfl) ?_
  refine lv_icmp_eq (tgt := 1414) hx hb dL_law_1409 (by decide) (fun _ => ?_) (fun c9 => absurd (hw3.trans pl.1.symm) c9)
  refine lv_iload hx hb dL_law_1414 (lv_at hl 1 rfl) ?_
  refine lv_if_ne (tgt := 1431) hx hb dL_law_1416 (by decide) (fun _ => fin) (fun c9 => ?_)
  refine lv_aload_n hx hb dL_law_1419 rfl (lv_at hl 3 rfl) ?_
  refine lv_iconst (v := (nI 0)) hx hb dL_law_1420 (by decide) ?_
  refine va_lald hx hb hK hP 86 3 rfl rfl (vp_in_nI (by decide) (by decide)) dL_law_1421 ?_
  refine lv_iload hx hb dL_law_1422 (lv_at hl 0 rfl) ?_
  refine lv_i2l (v := r_2.toInt64) hx hb dL_law_1424 rfl ?_
  exact n_lcmp hx hb (by rw [nI_clamp (by decide), hw2]; exact pl.2.1 (c9.trans nI_0.symm)) dL_law_1425 dL_law_1426 (by decide) fin
theorem hdX5_savedStates : yX5_savedStates.cls = RX5 ∧ yX5_savedStates.cls ≠ "java/lang/invoke/MethodHandle" ∧ yX5_savedStates.cls ≠ "java/lang/invoke/VarHandle" ∧ (parseMethodDescriptor yX5_savedStates.desc).map (fun d => d.parameters.length) = some 0 := by decide +kernel
theorem hdX6_savedStates : yX6_savedStates.cls = RX6 ∧ yX6_savedStates.cls ≠ "java/lang/invoke/MethodHandle" ∧ yX6_savedStates.cls ≠ "java/lang/invoke/VarHandle" ∧ (parseMethodDescriptor yX6_savedStates.desc).map (fun d => d.parameters.length) = some 0 := by decide +kernel
set_option maxHeartbeats 4000000 in
set_option maxRecDepth 100000 in
theorem LC_savedStates (C : LC0 p l s m args c b0 L xs dC dI cI cV cW cL wa sw ad aK aV sa) (hi : i + 3 < L) (hcl : cells + 3 ≤ 601024) (hsl : slots + 18 ≤ 7293034) (h : LST s dC dI cI cV cW cL a A X M ou H locs b0 i ls) (kk : ∀ (A : Nat → Nat → Nat) (X : XS) (M : MS) (ou : Nat → Int64) (H : Heap) (locs : List Loc) (ls : Array Slot), LST s dC dI cI cV cW cL a A X M ou H locs b0 i ls → W p l e room_1 s m args below meth c H locs (cells + 3) (slots + 18) Q (F0 m 1461 ls [])) : W p l e room_1 s m args below meth c H locs cells slots Q (F0 m 1434 ls []) := by
  obtain ⟨hx, hb, hml, hown, hts, hX, hbl, hL, hK, hIm, hNw, hXm, hC3, hlt⟩ := C
  obtain ⟨hP, hD, hS, hI, hl⟩ := h
  obtain ⟨K, b, n, T⟩ := X
  obtain ⟨th, sm, ln, at_, wl, rm, q, ha, Rw⟩ := M
  have hV : RV (Rw 0) (K 6).1 (K 6).2.1 (K 6).2.2.1 ((K 6).2.2.2 0) ((K 6).2.2.2 1) ((K 6).2.2.2 2) ((K 6).2.2.2 3) ((K 6).2.2.2 4) ((K 6).2.2.2 5) ((K 6).2.2.2 6) ((K 6).2.2.2 7) := hI.1
  have hn6 : n ≤ 6 := hI.2.1
  have hsm : sm = n := hI.2.2.1
  have hsm6 : sm ≤ 6 := by omega
  have hSR : SR (Rw 2) K n := hI.2.2.2.1
  have hnn : T.1 ≤ 60 := hI.2.2.2.2.1
  have hln : ln = T.1 := hI.2.2.2.2.2.1
  have hln6 : ln ≤ 60 := by omega
  have hBu : Rw 3 = T.2.2.2.1 := hI.2.2.2.2.2.2
  have hA : ∀ q : Nat, s.heap.size ≤ q → Fr s q := fun _ h => h
  have hbA : ¬ Fr s b0 := Nat.not_le.mpr hbl
  refine lv_aload_n hx hb dL_law_1434 rfl (lv_at hl 3 rfl) ?_
  have hFc := freeW hD hS hA
  refine va_calli (va_runV (As := []) (rest := []) ⟨hx, hb, hml, hown, hts⟩ (aX5_savedStates l dC dI cI cV cW cL wa sw ad aK aV sa H.size a A K b n T (th, sm, ln, at_, wl, rm, q, ha, Rw) ou ) (cwV 0 hts (gF2 gL_law_X5_savedStates (by decide +kernel)) rfl rfl rfl hdX5_savedStates ⟨Nat.le_of_ble_eq_true rfl, Nat.le_of_ble_eq_true rfl⟩) (pL_V (A := Fr s) hK (imW hIm hS hFc) hNw (hXm.at hS hFc) hC3 hP hD 0 3 rfl rfl rfl) rfl rfl hl.1 rfl (lv_room (Nat.le_of_ble_eq_true rfl)) dL_law_1435 ⟨Nat.le_trans (by omega) hcl, Nat.le_trans (by omega) hsl⟩) hS (fun q _ h => hFc q h) hFc (fun r_1 u_ t_ H1 locs ht_ hvm_ hw1 hB_ hz_ hk_ hS => ?_)
  obtain ⟨hP1, hD1⟩ := hB_
  rw [ht_] at hP1
  have hP := hP1
  have hD := hD1.weaken (fun _ q _ h => hFc q.1 h)
  clear hP1 hD1 hFc hk_ hz_ hvm_ ht_ u_
  generalize H1 = H at hP hS ⊢
  refine lv_aload_n hx hb dL_law_1438 rfl (lv_at hl 2 rfl) ?_
  have hFc := freeW hD hS hA
  refine va_calli (va_runV (As := []) (rest := [.int r_1]) ⟨hx, hb, hml, hown, hts⟩ (aX6_savedStates l dC dI cI cV cW cL wa sw ad aK aV sa H.size a A (K, b, n, T) th sm ln at_ wl rm q ha Rw ou  ) (cwV 0 hts (gF2 gL_law_X6_savedStates (by decide +kernel)) rfl rfl rfl hdX6_savedStates ⟨Nat.le_of_ble_eq_true rfl, Nat.le_of_ble_eq_true rfl⟩) (pL_V (A := Fr s) hK (imW hIm hS hFc) hNw (hXm.at hS hFc) hC3 hP hD 80 4 rfl rfl rfl) rfl rfl hl.1 rfl (lv_room (Nat.le_of_ble_eq_true rfl)) dL_law_1439 ⟨Nat.le_trans (by omega) hcl, Nat.le_trans (by omega) hsl⟩) hS (fun q _ h => hFc q h) hFc (fun r_2 u2_ t_ H1 locs ht_ hvm_ hw2 hB_ hz_ hk_ hS => ?_)
  obtain ⟨hP1, hD1⟩ := hB_
  rw [ht_] at hP1
  have hP := hP1
  have hD := hD1.weaken (fun _ q _ h => hFc q.1 h)
  clear hP1 hD1 hFc hk_ hz_ hvm_ ht_ u2_
  generalize H1 = H at hP hS ⊢
  have hv : r_1 = r_2 := hw1.trans (Eq.trans (by rw [hsm]) hw2.symm)
  refine lv_icmp_eq (tgt := 1461) hx hb dL_law_1442 (by decide) (fun _ => ?_) (fun q => absurd hv q)
  refine W.widen (k := cells + 3) (n := slots + 18) (by omega) (by omega) ?_
  exact kk A (K, b, n, T) ((nI 0), sm, ln, at_, wl, rm, q, ha, Rw) ou H locs ls ⟨hP, hD, hS, hI, hl⟩
theorem hdX5_digest : yX5_digest.cls = RX5 ∧ yX5_digest.cls ≠ "java/lang/invoke/MethodHandle" ∧ yX5_digest.cls ≠ "java/lang/invoke/VarHandle" ∧ (parseMethodDescriptor yX5_digest.desc).map (fun d => d.parameters.length) = some 0 := by decide +kernel
theorem hdX6_digest : yX6_digest.cls = RX6 ∧ yX6_digest.cls ≠ "java/lang/invoke/MethodHandle" ∧ yX6_digest.cls ≠ "java/lang/invoke/VarHandle" ∧ (parseMethodDescriptor yX6_digest.desc).map (fun d => d.parameters.length) = some 0 := by decide +kernel
set_option maxHeartbeats 4000000 in
set_option maxRecDepth 100000 in
theorem LC_digest (C : LC0 p l s m args c b0 L xs dC dI cI cV cW cL wa sw ad aK aV sa) (hi : i + 3 < L) (hcl : cells + 3 ≤ 601024) (hsl : slots + 18 ≤ 7293034) (h : LST s dC dI cI cV cW cL a A X M ou H locs b0 i ls) (kk : ∀ (A : Nat → Nat → Nat) (X : XS) (M : MS) (ou : Nat → Int64) (H : Heap) (locs : List Loc) (ls : Array Slot), LST s dC dI cI cV cW cL a A X M ou H locs b0 i ls → W p l e room_1 s m args below meth c H locs (cells + 3) (slots + 18) Q (F0 m 1461 ls [])) : W p l e room_1 s m args below meth c H locs cells slots Q (F0 m 1447 ls []) := by
  obtain ⟨hx, hb, hml, hown, hts, hX, hbl, hL, hK, hIm, hNw, hXm, hC3, hlt⟩ := C
  obtain ⟨hP, hD, hS, hI, hl⟩ := h
  obtain ⟨K, b, n, T⟩ := X
  obtain ⟨th, sm, ln, at_, wl, rm, q, ha, Rw⟩ := M
  have hV : RV (Rw 0) (K 6).1 (K 6).2.1 (K 6).2.2.1 ((K 6).2.2.2 0) ((K 6).2.2.2 1) ((K 6).2.2.2 2) ((K 6).2.2.2 3) ((K 6).2.2.2 4) ((K 6).2.2.2 5) ((K 6).2.2.2 6) ((K 6).2.2.2 7) := hI.1
  have hn6 : n ≤ 6 := hI.2.1
  have hsm : sm = n := hI.2.2.1
  have hsm6 : sm ≤ 6 := by omega
  have hSR : SR (Rw 2) K n := hI.2.2.2.1
  have hnn : T.1 ≤ 60 := hI.2.2.2.2.1
  have hln : ln = T.1 := hI.2.2.2.2.2.1
  have hln6 : ln ≤ 60 := by omega
  have hBu : Rw 3 = T.2.2.2.1 := hI.2.2.2.2.2.2
  have hA : ∀ q : Nat, s.heap.size ≤ q → Fr s q := fun _ h => h
  have hbA : ¬ Fr s b0 := Nat.not_le.mpr hbl
  refine lv_aload_n hx hb dL_law_1447 rfl (lv_at hl 3 rfl) ?_
  have hFc := freeW hD hS hA
  refine va_calll (va_runV (As := []) (rest := []) ⟨hx, hb, hml, hown, hts⟩ (aX5_digest l dC dI cI cV cW cL wa sw ad aK aV sa H.size a A K b n T (th, sm, ln, at_, wl, rm, q, ha, Rw) ou hV.vo) (cwV 0 hts (gF2 gL_law_X5_digest (by decide +kernel)) rfl rfl rfl hdX5_digest ⟨Nat.le_of_ble_eq_true rfl, Nat.le_of_ble_eq_true rfl⟩) (pL_V (A := Fr s) hK (imW hIm hS hFc) hNw (hXm.at hS hFc) hC3 hP hD 0 3 rfl rfl rfl) rfl rfl hl.1 rfl (lv_room (Nat.le_of_ble_eq_true rfl)) dL_law_1448 ⟨Nat.le_trans (by omega) hcl, Nat.le_trans (by omega) hsl⟩) hS (fun q _ h => hFc q h) hFc (fun r_1 u_ t_ H1 locs ht_ hvm_ hw1 hB_ hz_ hk_ hS => ?_)
  obtain ⟨hP1, hD1⟩ := hB_
  rw [ht_] at hP1
  have hP := hP1
  have hD := hD1.weaken (fun _ q _ h => hFc q.1 h)
  clear hP1 hD1 hFc hk_ hz_ hvm_ ht_ u_
  generalize H1 = H at hP hS ⊢
  refine lv_aload_n hx hb dL_law_1451 rfl (lv_at hl 2 rfl) ?_
  have hFc := freeW hD hS hA
  refine va_calll (va_runV (As := []) (rest := [.long r_1]) ⟨hx, hb, hml, hown, hts⟩ (aX6_digest l dC dI cI cV cW cL wa sw ad aK aV sa H.size a A (K, (((cF ((K 6).2.2.2 6) ((K 6).2.2.2 7) ((K 6).2.2.2 1) ((K 6).2.2.2 4) ((K 6).2.2.2 5) ((K 6).2.2.2 3) ((K 6).2.2.2 0) ((K 6).2.2.2 2) ((K 6).1) b).1), ((cF ((K 6).2.2.2 6) ((K 6).2.2.2 7) ((K 6).2.2.2 1) ((K 6).2.2.2 4) ((K 6).2.2.2 5) ((K 6).2.2.2 3) ((K 6).2.2.2 0) ((K 6).2.2.2 2) ((K 6).1) b).2.1), ((cF ((K 6).2.2.2 6) ((K 6).2.2.2 7) ((K 6).2.2.2 1) ((K 6).2.2.2 4) ((K 6).2.2.2 5) ((K 6).2.2.2 3) ((K 6).2.2.2 0) ((K 6).2.2.2 2) ((K 6).1) b).2.2.1), ((cF ((K 6).2.2.2 6) ((K 6).2.2.2 7) ((K 6).2.2.2 1) ((K 6).2.2.2 4) ((K 6).2.2.2 5) ((K 6).2.2.2 3) ((K 6).2.2.2 0) ((K 6).2.2.2 2) ((K 6).1) b).2.2.2)), n, T) th sm ln at_ wl rm q ha Rw ou (K 6).1 hV.ro) (cwV 0 hts (gF2 gL_law_X6_digest (by decide +kernel)) rfl rfl rfl hdX6_digest ⟨Nat.le_of_ble_eq_true rfl, Nat.le_of_ble_eq_true rfl⟩) (pL_V (A := Fr s) hK (imW hIm hS hFc) hNw (hXm.at hS hFc) hC3 hP hD 80 4 rfl rfl rfl) rfl rfl hl.1 rfl (lv_room (Nat.le_of_ble_eq_true rfl)) dL_law_1452 ⟨Nat.le_trans (by omega) hcl, Nat.le_trans (by omega) hsl⟩) hS (fun q _ h => hFc q h) hFc (fun r_2 u2_ t_ H1 locs ht_ hvm_ hw2 hB_ hz_ hk_ hS => ?_)
  obtain ⟨hP1, hD1⟩ := hB_
  rw [ht_] at hP1
  have hP := hP1
  have hD := hD1.weaken (fun _ q _ h => hFc q.1 h)
  clear hP1 hD1 hFc hk_ hz_ hvm_ ht_ u2_
  generalize H1 = H at hP hS ⊢
  have hv := hV.dig b q
  refine n_lcmp (tgt := 1461) hx hb (hw1.trans (hv.trans hw2.symm)) dL_law_1455 dL_law_1456 (by decide) ?_
  refine W.widen (k := cells + 3) (n := slots + 18) (by omega) (by omega) ?_
  exact kk A (K, (((cF ((K 6).2.2.2 6) ((K 6).2.2.2 7) ((K 6).2.2.2 1) ((K 6).2.2.2 4) ((K 6).2.2.2 5) ((K 6).2.2.2 3) ((K 6).2.2.2 0) ((K 6).2.2.2 2) ((K 6).1) b).1), ((cF ((K 6).2.2.2 6) ((K 6).2.2.2 7) ((K 6).2.2.2 1) ((K 6).2.2.2 4) ((K 6).2.2.2 5) ((K 6).2.2.2 3) ((K 6).2.2.2 0) ((K 6).2.2.2 2) ((K 6).1) b).2.1), ((cF ((K 6).2.2.2 6) ((K 6).2.2.2 7) ((K 6).2.2.2 1) ((K 6).2.2.2 4) ((K 6).2.2.2 5) ((K 6).2.2.2 3) ((K 6).2.2.2 0) ((K 6).2.2.2 2) ((K 6).1) b).2.2.1), ((cF ((K 6).2.2.2 6) ((K 6).2.2.2 7) ((K 6).2.2.2 1) ((K 6).2.2.2 4) ((K 6).2.2.2 5) ((K 6).2.2.2 3) ((K 6).2.2.2 0) ((K 6).2.2.2 2) ((K 6).1) b).2.2.2)), n, T) ((nI 0), sm, ln, at_, wl, rm, (fF (Rw 0) (K 6).1 q), dRc (Rw 0) (dSh (Rw 0) (K 6).1 (dHd (Rw 0) (K 6).1 (fF (Rw 0) (K 6).1 q).1) 6) (K 6).1, Rw) ou H locs ls ⟨hP, hD, hS, hI, hl⟩
end LAWCASES4
