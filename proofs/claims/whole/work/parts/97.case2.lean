section LAWCASES2
variable {p : Program} {l : Launch} {e : Env} {s : State} {m : MethodId} {args : Array Value} {below : List Frame} {meth : Method} {c : Code} {H : Heap} {locs : List Loc} {cells slots : Nat} {Q : State → Prop} {ls : Array Slot}
variable {dC : Nat → ClassId} {dI : Nat → Nat → Nat} {cI cV cW cL : ClassId} {wa sw : Nat} {ad aK aV : Nat → Nat} {sa : Nat → Nat} {a : Nat → Nat} {A : Nat → Nat → Nat} {b0 L i : Nat} {xs : Nat → Int32} {X : XS} {M : MS} {ou : Nat → Int64}
theorem hdL_width : yL_width.cls ≠ "java/lang/invoke/MethodHandle" ∧ yL_width.cls ≠ "java/lang/invoke/VarHandle" ∧ (parseMethodDescriptor yL_width.desc).map (fun d => d.parameters.length) = some 3 := by decide +kernel
theorem hdX6_width : yX6_width.cls = RX6 ∧ yX6_width.cls ≠ "java/lang/invoke/MethodHandle" ∧ yX6_width.cls ≠ "java/lang/invoke/VarHandle" ∧ (parseMethodDescriptor yX6_width.desc).map (fun d => d.parameters.length) = some 1 := by decide +kernel
set_option maxHeartbeats 4000000 in
set_option maxRecDepth 100000 in
theorem LC_width (C : LC0 p l s m args c b0 L xs dC dI cI cV cW cL wa sw ad aK aV sa) (hi : i + 3 < L) (hcl : cells + 3 ≤ 601024) (hsl : slots + 18 ≤ 7293034) (h : LST s dC dI cI cV cW cL a A X M ou H locs b0 i ls) (kk : ∀ (A : Nat → Nat → Nat) (X : XS) (M : MS) (ou : Nat → Int64) (H : Heap) (locs : List Loc) (ls : Array Slot), LST s dC dI cI cV cW cL a A X M ou H locs b0 i ls → W p l e room_1 s m args below meth c H locs (cells + 3) (slots + 18) Q (F0 m 1461 ls [])) : W p l e room_1 s m args below meth c H locs cells slots Q (F0 m 393 ls []) := by
  obtain ⟨hx, hb, hml, hown, hts, hX, hbl, hL, hK, hIm, hNw, hXm, hC3, hlt⟩ := C
  obtain ⟨hP, hD, hS, hI, hl⟩ := h
  obtain ⟨K, b, n, T⟩ := X
  obtain ⟨th, sm, ln, at_, wl, rm, q, ha, Rw⟩ := M
  have hV : RV (Rw 0) (K 6).1 (K 6).2.1 (K 6).2.2.1 ((K 6).2.2.2 0) ((K 6).2.2.2 1) ((K 6).2.2.2 2) ((K 6).2.2.2 3) ((K 6).2.2.2 4) ((K 6).2.2.2 5) ((K 6).2.2.2 6) ((K 6).2.2.2 7) := hI.1
  have hn6 : n ≤ 6 := hI.2.1
  have hsm : sm = n := hI.2.2.1
  have hsm6 : sm ≤ 6 := by omega
  have hSR : SR (Rw 2) K n := hI.2.2.2.1
  have hnn : T.1 ≤ 60 := hI.2.2.2.2.1
  have hln : ln = T.1 := hI.2.2.2.2.2.1
  have hln6 : ln ≤ 60 := by omega
  have hBu : Rw 3 = T.2.2.2.1 := hI.2.2.2.2.2.2
  have hA : ∀ q : Nat, s.heap.size ≤ q → Fr s q := fun _ h => h
  have hbA : ¬ Fr s b0 := Nat.not_le.mpr hbl
  refine lv_aload_n hx hb dL_law_393 rfl (lv_at hl 3 rfl) ?_
  refine n_arg (L := L) (i := i) (k := 1) hx hb hX hbl hbA hS (by omega) hL dL_law_394 dL_law_395 dL_law_397 dL_law_398 dL_law_399 (by decide) (lv_at hl 4 rfl) (lv_at hl 0 rfl) ?_
  refine lv_aload_n hx hb dL_law_400 rfl (lv_at hl 1 rfl) ?_
  have hFc := freeW hD hS hA
  refine va_calli (vx_runSW (hh := [(0, 9, 12, 13)]) (As := [.ref (a 0), .int (xs (i + 1)), .ref (a 14)]) (rest := []) ⟨hx, hb, hml, hown, hts⟩ (hL_width l dC dI cI cV cW cL wa sw ad aK aV sa H.size a A hlt K b n T (th, sm, ln, at_, wl, rm, q, ha, Rw) ou (xs (i + 1)) hV.hc) (vx_cwSW 3 hts (gF2 gL_law_L_width (by decide +kernel)) rfl rfl rfl hdL_width ⟨Nat.le_of_ble_eq_true rfl, Nat.le_of_ble_eq_true rfl⟩) (pL_S (A := Fr s) hK (imW hIm hS hFc) hNw (hXm.at hS hFc) hC3 hP hD) rfl rfl hl.1 rfl (lv_room (Nat.le_of_ble_eq_true rfl)) dL_law_401 ⟨Nat.le_trans (by omega) hcl, Nat.le_trans (by omega) hsl⟩) hS (fun q _ h => hFc q h) hFc (fun r_1 u_ t_ H1 locs ht_ hvm_ hw1 hB_ hz_ hk_ hS => ?_)
  obtain ⟨hP1, hD1⟩ := hB_
  rw [ht_] at hP1
  have pl := PL_width hI hw1
  have hP := hP1
  have hD := hD1.weaken (fun _ q _ h => hFc q.1 h)
  clear hP1 hD1 hFc hk_ hz_ hvm_ ht_ hw1
  generalize H1 = H at hP hS ⊢
  obtain ⟨A1, X1, ou1⟩ := u_
  refine lv_istore (lv' := [(5, .int r_1), (4, .int (nI i)), (3, .ref (a 14)), (2, .ref (a 8)), (1, .ref (a 0)), (0, .ref b0)]) hx hb dL_law_404 hl (by decide) rfl (fun ls hl => ?_)
  refine lv_aload_n hx hb dL_law_406 rfl (lv_at hl 3 rfl) ?_
  refine n_arg (L := L) (i := i) (k := 1) hx hb hX hbl hbA hS (by omega) hL dL_law_407 dL_law_408 dL_law_410 dL_law_411 dL_law_412 (by decide) (lv_at hl 5 rfl) (lv_at hl 1 rfl) ?_
  have hFc := freeW hD hS hA
  refine va_calli (va_runV (As := [.int (xs (i + 1))]) (rest := []) ⟨hx, hb, hml, hown, hts⟩ (aX6_width l dC dI cI cV cW cL wa sw ad aK aV sa H.size a A1 X1 th sm ln at_ wl rm q ha Rw ou1 (K 6).1 (xs (i + 1)) hV.ro) (cwV 1 hts (gF2 gL_law_X6_width (by decide +kernel)) rfl rfl rfl hdX6_width ⟨Nat.le_of_ble_eq_true rfl, Nat.le_of_ble_eq_true rfl⟩) (pL_V (A := Fr s) hK (imW hIm hS hFc) hNw (hXm.at hS hFc) hC3 hP hD 80 4 rfl rfl rfl) rfl rfl hl.1 rfl (lv_room (Nat.le_of_ble_eq_true rfl)) dL_law_413 ⟨Nat.le_trans (by omega) hcl, Nat.le_trans (by omega) hsl⟩) hS (fun q _ h => hFc q h) hFc (fun r_2 u2_ t_ H1 locs ht_ hvm_ hw2 hB_ hz_ hk_ hS => ?_)
  obtain ⟨hP1, hD1⟩ := hB_
  rw [ht_] at hP1
  have hP := hP1
  have hD := hD1.weaken (fun _ q _ h => hFc q.1 h)
  clear hP1 hD1 hFc hk_ hz_ hvm_ ht_ u2_
  generalize H1 = H at hP hS ⊢
  refine lv_istore (lv' := [(6, .int r_2), (5, .int r_1), (4, .int (nI i)), (3, .ref (a 14)), (2, .ref (a 8)), (1, .ref (a 0)), (0, .ref b0)]) hx hb dL_law_416 hl (by decide) rfl (fun ls hl => ?_)
  refine lv_aload_n hx hb dL_law_418 rfl (lv_at hl 4 rfl) ?_
  have hFc := freeW hD hS hA
  refine va_calli (va_runV (As := []) (rest := []) ⟨hx, hb, hml, hown, hts⟩ (aX6_thrown l dC dI cI cV cW cL wa sw ad aK aV sa H.size a A1 X1 ((nI (if sIn (xs (i + 1)) 0 ((Rw 0) 0 - 1) = true then 0 else 1))) (sm) (ln) (at_) (wl) (rm) (q) (ha) (Rw) ou1) (cwV 0 hts (gF2 gL_law_X6_thrown (by decide +kernel)) rfl rfl rfl hdX6_thrown ⟨Nat.le_of_ble_eq_true rfl, Nat.le_of_ble_eq_true rfl⟩) (pL_V (A := Fr s) hK (imW hIm hS hFc) hNw (hXm.at hS hFc) hC3 hP hD 80 4 rfl rfl rfl) rfl rfl hl.1 rfl (lv_room (Nat.le_of_ble_eq_true rfl)) dL_law_419 ⟨Nat.le_trans (by omega) hcl, Nat.le_trans (by omega) hsl⟩) hS (fun q _ h => hFc q h) hFc (fun r_3 u3_ t_ H1 locs ht_ hvm_ hw3 hB_ hz_ hk_ hS => ?_)
  obtain ⟨hP1, hD1⟩ := hB_
  rw [ht_] at hP1
  have hP := hP1
  have hD := hD1.weaken (fun _ q _ h => hFc q.1 h)
  clear hP1 hD1 hFc hk_ hz_ hvm_ ht_ u3_
  generalize H1 = H at hP hS ⊢
  have fin : W p l e room_1 s m args below meth c H locs (cells + 1 + 0 + 0) (slots + 6 + 0 + 0) Q (F0 m 446 ls []) := by
    refine lv_goto (tgt := 1461) hx hb dL_law_446 (by decide) ?_
    refine W.widen (k := cells + 3) (n := slots + 18) (by omega) (by omega) ?_
    exact kk A1 X1 _ ou1 H locs ls ⟨hP, hD, hS, pl.2.2, lv_sub hl [2, 3, 4, 5, 6] rfl⟩
  refine lv_iload hx hb dL_law_422 (lv_at hl 1 rfl) ?_
  refine lv_icmp_eq (tgt := 429) hx hb dL_law_424 (by decide) (fun _ => ?_) (fun c9 => absurd (hw3.trans pl.1.symm) c9)
  refine lv_iload hx hb dL_law_429 (lv_at hl 1 rfl) ?_
  refine lv_if_ne (tgt := 446) hx hb dL_law_431 (by decide) (fun _ => fin) (fun c9 => ?_)
  refine lv_aload_n hx hb dL_law_434 rfl (lv_at hl 3 rfl) ?_
  refine lv_iconst (v := (nI 0)) hx hb dL_law_435 (by decide) ?_
  refine va_lald hx hb hK hP 86 3 rfl rfl (vp_in_nI (by decide) (by decide)) dL_law_436 ?_
  refine lv_iload hx hb dL_law_437 (lv_at hl 0 rfl) ?_
  refine lv_i2l (v := r_2.toInt64) hx hb dL_law_439 rfl ?_
  exact n_lcmp hx hb (by rw [nI_clamp (by decide), hw2]; exact pl.2.1 (c9.trans nI_0.symm)) dL_law_440 dL_law_441 (by decide) fin
theorem hdL_shelfOf : yL_shelfOf.cls ≠ "java/lang/invoke/MethodHandle" ∧ yL_shelfOf.cls ≠ "java/lang/invoke/VarHandle" ∧ (parseMethodDescriptor yL_shelfOf.desc).map (fun d => d.parameters.length) = some 3 := by decide +kernel
theorem hdX6_shelfOf : yX6_shelfOf.cls = RX6 ∧ yX6_shelfOf.cls ≠ "java/lang/invoke/MethodHandle" ∧ yX6_shelfOf.cls ≠ "java/lang/invoke/VarHandle" ∧ (parseMethodDescriptor yX6_shelfOf.desc).map (fun d => d.parameters.length) = some 1 := by decide +kernel
set_option maxHeartbeats 4000000 in
set_option maxRecDepth 100000 in
theorem LC_shelfOf (C : LC0 p l s m args c b0 L xs dC dI cI cV cW cL wa sw ad aK aV sa) (hi : i + 3 < L) (hcl : cells + 3 ≤ 601024) (hsl : slots + 18 ≤ 7293034) (h : LST s dC dI cI cV cW cL a A X M ou H locs b0 i ls) (kk : ∀ (A : Nat → Nat → Nat) (X : XS) (M : MS) (ou : Nat → Int64) (H : Heap) (locs : List Loc) (ls : Array Slot), LST s dC dI cI cV cW cL a A X M ou H locs b0 i ls → W p l e room_1 s m args below meth c H locs (cells + 3) (slots + 18) Q (F0 m 1461 ls [])) : W p l e room_1 s m args below meth c H locs cells slots Q (F0 m 449 ls []) := by
  obtain ⟨hx, hb, hml, hown, hts, hX, hbl, hL, hK, hIm, hNw, hXm, hC3, hlt⟩ := C
  obtain ⟨hP, hD, hS, hI, hl⟩ := h
  obtain ⟨K, b, n, T⟩ := X
  obtain ⟨th, sm, ln, at_, wl, rm, q, ha, Rw⟩ := M
  have hV : RV (Rw 0) (K 6).1 (K 6).2.1 (K 6).2.2.1 ((K 6).2.2.2 0) ((K 6).2.2.2 1) ((K 6).2.2.2 2) ((K 6).2.2.2 3) ((K 6).2.2.2 4) ((K 6).2.2.2 5) ((K 6).2.2.2 6) ((K 6).2.2.2 7) := hI.1
  have hn6 : n ≤ 6 := hI.2.1
  have hsm : sm = n := hI.2.2.1
  have hsm6 : sm ≤ 6 := by omega
  have hSR : SR (Rw 2) K n := hI.2.2.2.1
  have hnn : T.1 ≤ 60 := hI.2.2.2.2.1
  have hln : ln = T.1 := hI.2.2.2.2.2.1
  have hln6 : ln ≤ 60 := by omega
  have hBu : Rw 3 = T.2.2.2.1 := hI.2.2.2.2.2.2
  have hA : ∀ q : Nat, s.heap.size ≤ q → Fr s q := fun _ h => h
  have hbA : ¬ Fr s b0 := Nat.not_le.mpr hbl
  refine lv_aload_n hx hb dL_law_449 rfl (lv_at hl 3 rfl) ?_
  refine n_arg (L := L) (i := i) (k := 1) hx hb hX hbl hbA hS (by omega) hL dL_law_450 dL_law_451 dL_law_453 dL_law_454 dL_law_455 (by decide) (lv_at hl 4 rfl) (lv_at hl 0 rfl) ?_
  refine lv_aload_n hx hb dL_law_456 rfl (lv_at hl 1 rfl) ?_
  have hFc := freeW hD hS hA
  refine va_calli (vx_runSW (hh := [(0, 9, 12, 13)]) (As := [.ref (a 0), .int (xs (i + 1)), .ref (a 14)]) (rest := []) ⟨hx, hb, hml, hown, hts⟩ (hL_shelfOf l dC dI cI cV cW cL wa sw ad aK aV sa H.size a A hlt K b n T (th, sm, ln, at_, wl, rm, q, ha, Rw) ou (xs (i + 1)) hV.hc) (vx_cwSW 3 hts (gF2 gL_law_L_shelfOf (by decide +kernel)) rfl rfl rfl hdL_shelfOf ⟨Nat.le_of_ble_eq_true rfl, Nat.le_of_ble_eq_true rfl⟩) (pL_S (A := Fr s) hK (imW hIm hS hFc) hNw (hXm.at hS hFc) hC3 hP hD) rfl rfl hl.1 rfl (lv_room (Nat.le_of_ble_eq_true rfl)) dL_law_457 ⟨Nat.le_trans (by omega) hcl, Nat.le_trans (by omega) hsl⟩) hS (fun q _ h => hFc q h) hFc (fun r_1 u_ t_ H1 locs ht_ hvm_ hw1 hB_ hz_ hk_ hS => ?_)
  obtain ⟨hP1, hD1⟩ := hB_
  rw [ht_] at hP1
  have pl := PL_shelfOf hI hw1
  have hP := hP1
  have hD := hD1.weaken (fun _ q _ h => hFc q.1 h)
  clear hP1 hD1 hFc hk_ hz_ hvm_ ht_ hw1
  generalize H1 = H at hP hS ⊢
  obtain ⟨A1, X1, ou1⟩ := u_
  refine lv_istore (lv' := [(5, .int r_1), (4, .int (nI i)), (3, .ref (a 14)), (2, .ref (a 8)), (1, .ref (a 0)), (0, .ref b0)]) hx hb dL_law_460 hl (by decide) rfl (fun ls hl => ?_)
  refine lv_aload_n hx hb dL_law_462 rfl (lv_at hl 3 rfl) ?_
  refine n_arg (L := L) (i := i) (k := 1) hx hb hX hbl hbA hS (by omega) hL dL_law_463 dL_law_464 dL_law_466 dL_law_467 dL_law_468 (by decide) (lv_at hl 5 rfl) (lv_at hl 1 rfl) ?_
  have hFc := freeW hD hS hA
  refine va_calli (va_runV (As := [.int (xs (i + 1))]) (rest := []) ⟨hx, hb, hml, hown, hts⟩ (aX6_shelfOf l dC dI cI cV cW cL wa sw ad aK aV sa H.size a A1 X1 th sm ln at_ wl rm q ha Rw ou1 (K 6).1 (xs (i + 1)) hV.ro) (cwV 1 hts (gF2 gL_law_X6_shelfOf (by decide +kernel)) rfl rfl rfl hdX6_shelfOf ⟨Nat.le_of_ble_eq_true rfl, Nat.le_of_ble_eq_true rfl⟩) (pL_V (A := Fr s) hK (imW hIm hS hFc) hNw (hXm.at hS hFc) hC3 hP hD 80 4 rfl rfl rfl) rfl rfl hl.1 rfl (lv_room (Nat.le_of_ble_eq_true rfl)) dL_law_469 ⟨Nat.le_trans (by omega) hcl, Nat.le_trans (by omega) hsl⟩) hS (fun q _ h => hFc q h) hFc (fun r_2 u2_ t_ H1 locs ht_ hvm_ hw2 hB_ hz_ hk_ hS => ?_)
  obtain ⟨hP1, hD1⟩ := hB_
  rw [ht_] at hP1
  have hP := hP1
  have hD := hD1.weaken (fun _ q _ h => hFc q.1 h)
  clear hP1 hD1 hFc hk_ hz_ hvm_ ht_ u2_
  generalize H1 = H at hP hS ⊢
  refine lv_istore (lv' := [(6, .int r_2), (5, .int r_1), (4, .int (nI i)), (3, .ref (a 14)), (2, .ref (a 8)), (1, .ref (a 0)), (0, .ref b0)]) hx hb dL_law_472 hl (by decide) rfl (fun ls hl => ?_)
  refine lv_aload_n hx hb dL_law_474 rfl (lv_at hl 4 rfl) ?_
  have hFc := freeW hD hS hA
  refine va_calli (va_runV (As := []) (rest := []) ⟨hx, hb, hml, hown, hts⟩ (aX6_thrown l dC dI cI cV cW cL wa sw ad aK aV sa H.size a A1 X1 ((nI (if sIn (xs (i + 1)) 0 ((Rw 0) 0 - 1) = true then 0 else 1))) (sm) (ln) (at_) (wl) (rm) (q) (ha) (Rw) ou1) (cwV 0 hts (gF2 gL_law_X6_thrown (by decide +kernel)) rfl rfl rfl hdX6_thrown ⟨Nat.le_of_ble_eq_true rfl, Nat.le_of_ble_eq_true rfl⟩) (pL_V (A := Fr s) hK (imW hIm hS hFc) hNw (hXm.at hS hFc) hC3 hP hD 80 4 rfl rfl rfl) rfl rfl hl.1 rfl (lv_room (Nat.le_of_ble_eq_true rfl)) dL_law_475 ⟨Nat.le_trans (by omega) hcl, Nat.le_trans (by omega) hsl⟩) hS (fun q _ h => hFc q h) hFc (fun r_3 u3_ t_ H1 locs ht_ hvm_ hw3 hB_ hz_ hk_ hS => ?_)
  obtain ⟨hP1, hD1⟩ := hB_
  rw [ht_] at hP1
  have hP := hP1
  have hD := hD1.weaken (fun _ q _ h => hFc q.1 h)
  clear hP1 hD1 hFc hk_ hz_ hvm_ ht_ u3_
  generalize H1 = H at hP hS ⊢
  have fin : W p l e room_1 s m args below meth c H locs (cells + 1 + 0 + 0) (slots + 6 + 0 + 0) Q (F0 m 502 ls []) := by
    refine lv_goto (tgt := 1461) hx hb dL_law_502 (by decide) ?_
    refine W.widen (k := cells + 3) (n := slots + 18) (by omega) (by omega) ?_
    exact kk A1 X1 _ ou1 H locs ls ⟨hP, hD, hS, pl.2.2, lv_sub hl [2, 3, 4, 5, 6] rfl⟩
  refine lv_iload hx hb dL_law_478 (lv_at hl 1 rfl) ?_
  refine lv_icmp_eq (tgt := 485) hx hb dL_law_480 (by decide) (fun _ => ?_) (fun c9 => absurd (hw3.trans pl.1.symm) c9)
  refine lv_iload hx hb dL_law_485 (lv_at hl 1 rfl) ?_
  refine lv_if_ne (tgt := 502) hx hb dL_law_487 (by decide) (fun _ => fin) (fun c9 => ?_)
  refine lv_aload_n hx hb dL_law_490 rfl (lv_at hl 3 rfl) ?_
  refine lv_iconst (v := (nI 0)) hx hb dL_law_491 (by decide) ?_
  refine va_lald hx hb hK hP 86 3 rfl rfl (vp_in_nI (by decide) (by decide)) dL_law_492 ?_
  refine lv_iload hx hb dL_law_493 (lv_at hl 0 rfl) ?_
  refine lv_i2l (v := r_2.toInt64) hx hb dL_law_495 rfl ?_
  exact n_lcmp hx hb (by rw [nI_clamp (by decide), hw2]; exact pl.2.1 (c9.trans nI_0.symm)) dL_law_496 dL_law_497 (by decide) fin
theorem hdL_catalog : yL_catalog.cls ≠ "java/lang/invoke/MethodHandle" ∧ yL_catalog.cls ≠ "java/lang/invoke/VarHandle" ∧ (parseMethodDescriptor yL_catalog.desc).map (fun d => d.parameters.length) = some 3 := by decide +kernel
theorem hdX6_catalog : yX6_catalog.cls = RX6 ∧ yX6_catalog.cls ≠ "java/lang/invoke/MethodHandle" ∧ yX6_catalog.cls ≠ "java/lang/invoke/VarHandle" ∧ (parseMethodDescriptor yX6_catalog.desc).map (fun d => d.parameters.length) = some 1 := by decide +kernel
set_option maxHeartbeats 4000000 in
set_option maxRecDepth 100000 in
theorem LC_catalog (C : LC0 p l s m args c b0 L xs dC dI cI cV cW cL wa sw ad aK aV sa) (hi : i + 3 < L) (hcl : cells + 3 ≤ 601024) (hsl : slots + 18 ≤ 7293034) (h : LST s dC dI cI cV cW cL a A X M ou H locs b0 i ls) (kk : ∀ (A : Nat → Nat → Nat) (X : XS) (M : MS) (ou : Nat → Int64) (H : Heap) (locs : List Loc) (ls : Array Slot), LST s dC dI cI cV cW cL a A X M ou H locs b0 i ls → W p l e room_1 s m args below meth c H locs (cells + 3) (slots + 18) Q (F0 m 1461 ls [])) : W p l e room_1 s m args below meth c H locs cells slots Q (F0 m 505 ls []) := by
  obtain ⟨hx, hb, hml, hown, hts, hX, hbl, hL, hK, hIm, hNw, hXm, hC3, hlt⟩ := C
  obtain ⟨hP, hD, hS, hI, hl⟩ := h
  obtain ⟨K, b, n, T⟩ := X
  obtain ⟨th, sm, ln, at_, wl, rm, q, ha, Rw⟩ := M
  have hV : RV (Rw 0) (K 6).1 (K 6).2.1 (K 6).2.2.1 ((K 6).2.2.2 0) ((K 6).2.2.2 1) ((K 6).2.2.2 2) ((K 6).2.2.2 3) ((K 6).2.2.2 4) ((K 6).2.2.2 5) ((K 6).2.2.2 6) ((K 6).2.2.2 7) := hI.1
  have hn6 : n ≤ 6 := hI.2.1
  have hsm : sm = n := hI.2.2.1
  have hsm6 : sm ≤ 6 := by omega
  have hSR : SR (Rw 2) K n := hI.2.2.2.1
  have hnn : T.1 ≤ 60 := hI.2.2.2.2.1
  have hln : ln = T.1 := hI.2.2.2.2.2.1
  have hln6 : ln ≤ 60 := by omega
  have hBu : Rw 3 = T.2.2.2.1 := hI.2.2.2.2.2.2
  have hA : ∀ q : Nat, s.heap.size ≤ q → Fr s q := fun _ h => h
  have hbA : ¬ Fr s b0 := Nat.not_le.mpr hbl
  refine lv_aload_n hx hb dL_law_505 rfl (lv_at hl 3 rfl) ?_
  refine n_arg (L := L) (i := i) (k := 1) hx hb hX hbl hbA hS (by omega) hL dL_law_506 dL_law_507 dL_law_509 dL_law_510 dL_law_511 (by decide) (lv_at hl 4 rfl) (lv_at hl 0 rfl) ?_
  refine lv_aload_n hx hb dL_law_512 rfl (lv_at hl 1 rfl) ?_
  have hFc := freeW hD hS hA
  refine va_calli (vx_runSW (hh := [(0, 9, 12, 13)]) (As := [.ref (a 0), .int (xs (i + 1)), .ref (a 14)]) (rest := []) ⟨hx, hb, hml, hown, hts⟩ (hL_catalog l dC dI cI cV cW cL wa sw ad aK aV sa H.size a A hlt K b n T (th, sm, ln, at_, wl, rm, q, ha, Rw) ou (xs (i + 1)) hV.hc) (vx_cwSW 3 hts (gF2 gL_law_L_catalog (by decide +kernel)) rfl rfl rfl hdL_catalog ⟨Nat.le_of_ble_eq_true rfl, Nat.le_of_ble_eq_true rfl⟩) (pL_S (A := Fr s) hK (imW hIm hS hFc) hNw (hXm.at hS hFc) hC3 hP hD) rfl rfl hl.1 rfl (lv_room (Nat.le_of_ble_eq_true rfl)) dL_law_513 ⟨Nat.le_trans (by omega) hcl, Nat.le_trans (by omega) hsl⟩) hS (fun q _ h => hFc q h) hFc (fun r_1 u_ t_ H1 locs ht_ hvm_ hw1 hB_ hz_ hk_ hS => ?_)
  obtain ⟨hP1, hD1⟩ := hB_
  rw [ht_] at hP1
  have pl := PL_catalog hI hw1
  have hP := hP1
  have hD := hD1.weaken (fun _ q _ h => hFc q.1 h)
  clear hP1 hD1 hFc hk_ hz_ hvm_ ht_ hw1
  generalize H1 = H at hP hS ⊢
  obtain ⟨A1, X1, ou1⟩ := u_
  refine lv_istore (lv' := [(5, .int r_1), (4, .int (nI i)), (3, .ref (a 14)), (2, .ref (a 8)), (1, .ref (a 0)), (0, .ref b0)]) hx hb dL_law_516 hl (by decide) rfl (fun ls hl => ?_)
  refine lv_aload_n hx hb dL_law_518 rfl (lv_at hl 3 rfl) ?_
  refine n_arg (L := L) (i := i) (k := 1) hx hb hX hbl hbA hS (by omega) hL dL_law_519 dL_law_520 dL_law_522 dL_law_523 dL_law_524 (by decide) (lv_at hl 5 rfl) (lv_at hl 1 rfl) ?_
  have hFc := freeW hD hS hA
  refine va_calli (va_runV (As := [.int (xs (i + 1))]) (rest := []) ⟨hx, hb, hml, hown, hts⟩ (aX6_catalog l dC dI cI cV cW cL wa sw ad aK aV sa H.size a A1 X1 th sm ln at_ wl rm q ha Rw ou1 (K 6).1 (xs (i + 1)) hV.ro) (cwV 1 hts (gF2 gL_law_X6_catalog (by decide +kernel)) rfl rfl rfl hdX6_catalog ⟨Nat.le_of_ble_eq_true rfl, Nat.le_of_ble_eq_true rfl⟩) (pL_V (A := Fr s) hK (imW hIm hS hFc) hNw (hXm.at hS hFc) hC3 hP hD 80 4 rfl rfl rfl) rfl rfl hl.1 rfl (lv_room (Nat.le_of_ble_eq_true rfl)) dL_law_525 ⟨Nat.le_trans (by omega) hcl, Nat.le_trans (by omega) hsl⟩) hS (fun q _ h => hFc q h) hFc (fun r_2 u2_ t_ H1 locs ht_ hvm_ hw2 hB_ hz_ hk_ hS => ?_)
  obtain ⟨hP1, hD1⟩ := hB_
  rw [ht_] at hP1
  have hP := hP1
  have hD := hD1.weaken (fun _ q _ h => hFc q.1 h)
  clear hP1 hD1 hFc hk_ hz_ hvm_ ht_ u2_
  generalize H1 = H at hP hS ⊢
  refine lv_istore (lv' := [(6, .int r_2), (5, .int r_1), (4, .int (nI i)), (3, .ref (a 14)), (2, .ref (a 8)), (1, .ref (a 0)), (0, .ref b0)]) hx hb dL_law_528 hl (by decide) rfl (fun ls hl => ?_)
  refine lv_aload_n hx hb dL_law_530 rfl (lv_at hl 4 rfl) ?_
  have hFc := freeW hD hS hA
  refine va_calli (va_runV (As := []) (rest := []) ⟨hx, hb, hml, hown, hts⟩ (aX6_thrown l dC dI cI cV cW cL wa sw ad aK aV sa H.size a A1 X1 ((nI (if sIn (xs (i + 1)) 0 ((Rw 0) 0 - 1) = true then 0 else 1))) (sm) (ln) (at_) (wl) (rm) (q) (ha) (Rw) ou1) (cwV 0 hts (gF2 gL_law_X6_thrown (by decide +kernel)) rfl rfl rfl hdX6_thrown ⟨Nat.le_of_ble_eq_true rfl, Nat.le_of_ble_eq_true rfl⟩) (pL_V (A := Fr s) hK (imW hIm hS hFc) hNw (hXm.at hS hFc) hC3 hP hD 80 4 rfl rfl rfl) rfl rfl hl.1 rfl (lv_room (Nat.le_of_ble_eq_true rfl)) dL_law_531 ⟨Nat.le_trans (by omega) hcl, Nat.le_trans (by omega) hsl⟩) hS (fun q _ h => hFc q h) hFc (fun r_3 u3_ t_ H1 locs ht_ hvm_ hw3 hB_ hz_ hk_ hS => ?_)
  obtain ⟨hP1, hD1⟩ := hB_
  rw [ht_] at hP1
  have hP := hP1
  have hD := hD1.weaken (fun _ q _ h => hFc q.1 h)
  clear hP1 hD1 hFc hk_ hz_ hvm_ ht_ u3_
  generalize H1 = H at hP hS ⊢
  have fin : W p l e room_1 s m args below meth c H locs (cells + 1 + 0 + 0) (slots + 6 + 0 + 0) Q (F0 m 558 ls []) := by
    refine lv_goto (tgt := 1461) hx hb dL_law_558 (by decide) ?_
    refine W.widen (k := cells + 3) (n := slots + 18) (by omega) (by omega) ?_
    exact kk A1 X1 _ ou1 H locs ls ⟨hP, hD, hS, pl.2.2, lv_sub hl [2, 3, 4, 5, 6] rfl⟩
  refine lv_iload hx hb dL_law_534 (lv_at hl 1 rfl) ?_
  refine lv_icmp_eq (tgt := 541) hx hb dL_law_536 (by decide) (fun _ => ?_) (fun c9 => absurd (hw3.trans pl.1.symm) c9)
  refine lv_iload hx hb dL_law_541 (lv_at hl 1 rfl) ?_
  refine lv_if_ne (tgt := 558) hx hb dL_law_543 (by decide) (fun _ => fin) (fun c9 => ?_)
  refine lv_aload_n hx hb dL_law_546 rfl (lv_at hl 3 rfl) ?_
  refine lv_iconst (v := (nI 0)) hx hb dL_law_547 (by decide) ?_
  refine va_lald hx hb hK hP 86 3 rfl rfl (vp_in_nI (by decide) (by decide)) dL_law_548 ?_
  refine lv_iload hx hb dL_law_549 (lv_at hl 0 rfl) ?_
  refine lv_i2l (v := r_2.toInt64) hx hb dL_law_551 rfl ?_
  exact n_lcmp hx hb (by rw [nI_clamp (by decide), hw2]; exact pl.2.1 (c9.trans nI_0.symm)) dL_law_552 dL_law_553 (by decide) fin
theorem hdL_weight : yL_weight.cls ≠ "java/lang/invoke/MethodHandle" ∧ yL_weight.cls ≠ "java/lang/invoke/VarHandle" ∧ (parseMethodDescriptor yL_weight.desc).map (fun d => d.parameters.length) = some 3 := by decide +kernel
theorem hdX6_weight : yX6_weight.cls = RX6 ∧ yX6_weight.cls ≠ "java/lang/invoke/MethodHandle" ∧ yX6_weight.cls ≠ "java/lang/invoke/VarHandle" ∧ (parseMethodDescriptor yX6_weight.desc).map (fun d => d.parameters.length) = some 1 := by decide +kernel
set_option maxHeartbeats 4000000 in
set_option maxRecDepth 100000 in
theorem LC_weight (C : LC0 p l s m args c b0 L xs dC dI cI cV cW cL wa sw ad aK aV sa) (hi : i + 3 < L) (hcl : cells + 3 ≤ 601024) (hsl : slots + 18 ≤ 7293034) (h : LST s dC dI cI cV cW cL a A X M ou H locs b0 i ls) (kk : ∀ (A : Nat → Nat → Nat) (X : XS) (M : MS) (ou : Nat → Int64) (H : Heap) (locs : List Loc) (ls : Array Slot), LST s dC dI cI cV cW cL a A X M ou H locs b0 i ls → W p l e room_1 s m args below meth c H locs (cells + 3) (slots + 18) Q (F0 m 1461 ls [])) : W p l e room_1 s m args below meth c H locs cells slots Q (F0 m 561 ls []) := by
  obtain ⟨hx, hb, hml, hown, hts, hX, hbl, hL, hK, hIm, hNw, hXm, hC3, hlt⟩ := C
  obtain ⟨hP, hD, hS, hI, hl⟩ := h
  obtain ⟨K, b, n, T⟩ := X
  obtain ⟨th, sm, ln, at_, wl, rm, q, ha, Rw⟩ := M
  have hV : RV (Rw 0) (K 6).1 (K 6).2.1 (K 6).2.2.1 ((K 6).2.2.2 0) ((K 6).2.2.2 1) ((K 6).2.2.2 2) ((K 6).2.2.2 3) ((K 6).2.2.2 4) ((K 6).2.2.2 5) ((K 6).2.2.2 6) ((K 6).2.2.2 7) := hI.1
  have hn6 : n ≤ 6 := hI.2.1
  have hsm : sm = n := hI.2.2.1
  have hsm6 : sm ≤ 6 := by omega
  have hSR : SR (Rw 2) K n := hI.2.2.2.1
  have hnn : T.1 ≤ 60 := hI.2.2.2.2.1
  have hln : ln = T.1 := hI.2.2.2.2.2.1
  have hln6 : ln ≤ 60 := by omega
  have hBu : Rw 3 = T.2.2.2.1 := hI.2.2.2.2.2.2
  have hA : ∀ q : Nat, s.heap.size ≤ q → Fr s q := fun _ h => h
  have hbA : ¬ Fr s b0 := Nat.not_le.mpr hbl
  refine lv_aload_n hx hb dL_law_561 rfl (lv_at hl 3 rfl) ?_
  refine n_arg (L := L) (i := i) (k := 1) hx hb hX hbl hbA hS (by omega) hL dL_law_562 dL_law_563 dL_law_565 dL_law_566 dL_law_567 (by decide) (lv_at hl 4 rfl) (lv_at hl 0 rfl) ?_
  refine lv_aload_n hx hb dL_law_568 rfl (lv_at hl 1 rfl) ?_
  have hFc := freeW hD hS hA
  refine va_calli (vx_runSW (hh := [(0, 9, 12, 13)]) (As := [.ref (a 0), .int (xs (i + 1)), .ref (a 14)]) (rest := []) ⟨hx, hb, hml, hown, hts⟩ (hL_weight l dC dI cI cV cW cL wa sw ad aK aV sa H.size a A hlt K b n T (th, sm, ln, at_, wl, rm, q, ha, Rw) ou (xs (i + 1)) hV.hc) (vx_cwSW 3 hts (gF2 gL_law_L_weight (by decide +kernel)) rfl rfl rfl hdL_weight ⟨Nat.le_of_ble_eq_true rfl, Nat.le_of_ble_eq_true rfl⟩) (pL_S (A := Fr s) hK (imW hIm hS hFc) hNw (hXm.at hS hFc) hC3 hP hD) rfl rfl hl.1 rfl (lv_room (Nat.le_of_ble_eq_true rfl)) dL_law_569 ⟨Nat.le_trans (by omega) hcl, Nat.le_trans (by omega) hsl⟩) hS (fun q _ h => hFc q h) hFc (fun r_1 u_ t_ H1 locs ht_ hvm_ hw1 hB_ hz_ hk_ hS => ?_)
  obtain ⟨hP1, hD1⟩ := hB_
  rw [ht_] at hP1
  have pl := PL_weight hI hw1
  have hP := hP1
  have hD := hD1.weaken (fun _ q _ h => hFc q.1 h)
  clear hP1 hD1 hFc hk_ hz_ hvm_ ht_ hw1
  generalize H1 = H at hP hS ⊢
  obtain ⟨A1, X1, ou1⟩ := u_
  refine lv_istore (lv' := [(5, .int r_1), (4, .int (nI i)), (3, .ref (a 14)), (2, .ref (a 8)), (1, .ref (a 0)), (0, .ref b0)]) hx hb dL_law_572 hl (by decide) rfl (fun ls hl => ?_)
  refine lv_aload_n hx hb dL_law_574 rfl (lv_at hl 3 rfl) ?_
  refine n_arg (L := L) (i := i) (k := 1) hx hb hX hbl hbA hS (by omega) hL dL_law_575 dL_law_576 dL_law_578 dL_law_579 dL_law_580 (by decide) (lv_at hl 5 rfl) (lv_at hl 1 rfl) ?_
  have hFc := freeW hD hS hA
  refine va_calli (va_runV (As := [.int (xs (i + 1))]) (rest := []) ⟨hx, hb, hml, hown, hts⟩ (aX6_weight l dC dI cI cV cW cL wa sw ad aK aV sa H.size a A1 X1 th sm ln at_ wl rm q ha Rw ou1 (K 6).1 (xs (i + 1)) hV.ro) (cwV 1 hts (gF2 gL_law_X6_weight (by decide +kernel)) rfl rfl rfl hdX6_weight ⟨Nat.le_of_ble_eq_true rfl, Nat.le_of_ble_eq_true rfl⟩) (pL_V (A := Fr s) hK (imW hIm hS hFc) hNw (hXm.at hS hFc) hC3 hP hD 80 4 rfl rfl rfl) rfl rfl hl.1 rfl (lv_room (Nat.le_of_ble_eq_true rfl)) dL_law_581 ⟨Nat.le_trans (by omega) hcl, Nat.le_trans (by omega) hsl⟩) hS (fun q _ h => hFc q h) hFc (fun r_2 u2_ t_ H1 locs ht_ hvm_ hw2 hB_ hz_ hk_ hS => ?_)
  obtain ⟨hP1, hD1⟩ := hB_
  rw [ht_] at hP1
  have hP := hP1
  have hD := hD1.weaken (fun _ q _ h => hFc q.1 h)
  clear hP1 hD1 hFc hk_ hz_ hvm_ ht_ u2_
  generalize H1 = H at hP hS ⊢
  refine lv_istore (lv' := [(6, .int r_2), (5, .int r_1), (4, .int (nI i)), (3, .ref (a 14)), (2, .ref (a 8)), (1, .ref (a 0)), (0, .ref b0)]) hx hb dL_law_584 hl (by decide) rfl (fun ls hl => ?_)
  refine lv_aload_n hx hb dL_law_586 rfl (lv_at hl 4 rfl) ?_
  have hFc := freeW hD hS hA
  refine va_calli (va_runV (As := []) (rest := []) ⟨hx, hb, hml, hown, hts⟩ (aX6_thrown l dC dI cI cV cW cL wa sw ad aK aV sa H.size a A1 X1 ((nI (if sIn (xs (i + 1)) 0 ((Rw 0) 0 - 1) = true then 0 else 1))) (sm) (ln) (at_) (wl) (rm) (q) (ha) (Rw) ou1) (cwV 0 hts (gF2 gL_law_X6_thrown (by decide +kernel)) rfl rfl rfl hdX6_thrown ⟨Nat.le_of_ble_eq_true rfl, Nat.le_of_ble_eq_true rfl⟩) (pL_V (A := Fr s) hK (imW hIm hS hFc) hNw (hXm.at hS hFc) hC3 hP hD 80 4 rfl rfl rfl) rfl rfl hl.1 rfl (lv_room (Nat.le_of_ble_eq_true rfl)) dL_law_587 ⟨Nat.le_trans (by omega) hcl, Nat.le_trans (by omega) hsl⟩) hS (fun q _ h => hFc q h) hFc (fun r_3 u3_ t_ H1 locs ht_ hvm_ hw3 hB_ hz_ hk_ hS => ?_)
  obtain ⟨hP1, hD1⟩ := hB_
  rw [ht_] at hP1
  have hP := hP1
  have hD := hD1.weaken (fun _ q _ h => hFc q.1 h)
  clear hP1 hD1 hFc hk_ hz_ hvm_ ht_ u3_
  generalize H1 = H at hP hS ⊢
  have fin : W p l e room_1 s m args below meth c H locs (cells + 1 + 0 + 0) (slots + 6 + 0 + 0) Q (F0 m 614 ls []) := by
    refine lv_goto (tgt := 1461) hx hb dL_law_614 (by decide) ?_
    refine W.widen (k := cells + 3) (n := slots + 18) (by omega) (by omega) ?_
    exact kk A1 X1 _ ou1 H locs ls ⟨hP, hD, hS, pl.2.2, lv_sub hl [2, 3, 4, 5, 6] rfl⟩
  refine lv_iload hx hb dL_law_590 (lv_at hl 1 rfl) ?_
  refine lv_icmp_eq (tgt := 597) hx hb dL_law_592 (by decide) (fun _ => ?_) (fun c9 => absurd (hw3.trans pl.1.symm) c9)
  refine lv_iload hx hb dL_law_597 (lv_at hl 1 rfl) ?_
  refine lv_if_ne (tgt := 614) hx hb dL_law_599 (by decide) (fun _ => fin) (fun c9 => ?_)
  refine lv_aload_n hx hb dL_law_602 rfl (lv_at hl 3 rfl) ?_
  refine lv_iconst (v := (nI 0)) hx hb dL_law_603 (by decide) ?_
  refine va_lald hx hb hK hP 86 3 rfl rfl (vp_in_nI (by decide) (by decide)) dL_law_604 ?_
  refine lv_iload hx hb dL_law_605 (lv_at hl 0 rfl) ?_
  refine lv_i2l (v := r_2.toInt64) hx hb dL_law_607 rfl ?_
  exact n_lcmp hx hb (by rw [nI_clamp (by decide), hw2]; exact pl.2.1 (c9.trans nI_0.symm)) dL_law_608 dL_law_609 (by decide) fin
theorem hdL_free : yL_free.cls ≠ "java/lang/invoke/MethodHandle" ∧ yL_free.cls ≠ "java/lang/invoke/VarHandle" ∧ (parseMethodDescriptor yL_free.desc).map (fun d => d.parameters.length) = some 3 := by decide +kernel
theorem hdX6_free : yX6_free.cls = RX6 ∧ yX6_free.cls ≠ "java/lang/invoke/MethodHandle" ∧ yX6_free.cls ≠ "java/lang/invoke/VarHandle" ∧ (parseMethodDescriptor yX6_free.desc).map (fun d => d.parameters.length) = some 1 := by decide +kernel
set_option maxHeartbeats 4000000 in
set_option maxRecDepth 100000 in
theorem LC_free (C : LC0 p l s m args c b0 L xs dC dI cI cV cW cL wa sw ad aK aV sa) (hi : i + 3 < L) (hcl : cells + 3 ≤ 601024) (hsl : slots + 18 ≤ 7293034) (h : LST s dC dI cI cV cW cL a A X M ou H locs b0 i ls) (kk : ∀ (A : Nat → Nat → Nat) (X : XS) (M : MS) (ou : Nat → Int64) (H : Heap) (locs : List Loc) (ls : Array Slot), LST s dC dI cI cV cW cL a A X M ou H locs b0 i ls → W p l e room_1 s m args below meth c H locs (cells + 3) (slots + 18) Q (F0 m 1461 ls [])) : W p l e room_1 s m args below meth c H locs cells slots Q (F0 m 617 ls []) := by
  obtain ⟨hx, hb, hml, hown, hts, hX, hbl, hL, hK, hIm, hNw, hXm, hC3, hlt⟩ := C
  obtain ⟨hP, hD, hS, hI, hl⟩ := h
  obtain ⟨K, b, n, T⟩ := X
  obtain ⟨th, sm, ln, at_, wl, rm, q, ha, Rw⟩ := M
  have hV : RV (Rw 0) (K 6).1 (K 6).2.1 (K 6).2.2.1 ((K 6).2.2.2 0) ((K 6).2.2.2 1) ((K 6).2.2.2 2) ((K 6).2.2.2 3) ((K 6).2.2.2 4) ((K 6).2.2.2 5) ((K 6).2.2.2 6) ((K 6).2.2.2 7) := hI.1
  have hn6 : n ≤ 6 := hI.2.1
  have hsm : sm = n := hI.2.2.1
  have hsm6 : sm ≤ 6 := by omega
  have hSR : SR (Rw 2) K n := hI.2.2.2.1
  have hnn : T.1 ≤ 60 := hI.2.2.2.2.1
  have hln : ln = T.1 := hI.2.2.2.2.2.1
  have hln6 : ln ≤ 60 := by omega
  have hBu : Rw 3 = T.2.2.2.1 := hI.2.2.2.2.2.2
  have hA : ∀ q : Nat, s.heap.size ≤ q → Fr s q := fun _ h => h
  have hbA : ¬ Fr s b0 := Nat.not_le.mpr hbl
  refine lv_aload_n hx hb dL_law_617 rfl (lv_at hl 3 rfl) ?_
  refine n_arg (L := L) (i := i) (k := 1) hx hb hX hbl hbA hS (by omega) hL dL_law_618 dL_law_619 dL_law_621 dL_law_622 dL_law_623 (by decide) (lv_at hl 4 rfl) (lv_at hl 0 rfl) ?_
  refine lv_aload_n hx hb dL_law_624 rfl (lv_at hl 1 rfl) ?_
  have hFc := freeW hD hS hA
  refine va_calli (vx_runSW (hh := [(0, 9, 12, 13)]) (As := [.ref (a 0), .int (xs (i + 1)), .ref (a 14)]) (rest := []) ⟨hx, hb, hml, hown, hts⟩ (hL_free l dC dI cI cV cW cL wa sw ad aK aV sa H.size a A hlt K b n T (th, sm, ln, at_, wl, rm, q, ha, Rw) ou (xs (i + 1)) ) (vx_cwSW 3 hts (gF2 gL_law_L_free (by decide +kernel)) rfl rfl rfl hdL_free ⟨Nat.le_of_ble_eq_true rfl, Nat.le_of_ble_eq_true rfl⟩) (pL_S (A := Fr s) hK (imW hIm hS hFc) hNw (hXm.at hS hFc) hC3 hP hD) rfl rfl hl.1 rfl (lv_room (Nat.le_of_ble_eq_true rfl)) dL_law_625 ⟨Nat.le_trans (by omega) hcl, Nat.le_trans (by omega) hsl⟩) hS (fun q _ h => hFc q h) hFc (fun r_1 u_ t_ H1 locs ht_ hvm_ hw1 hB_ hz_ hk_ hS => ?_)
  obtain ⟨hP1, hD1⟩ := hB_
  rw [ht_] at hP1
  have pl := PL_free hI hw1
  have hP := hP1
  have hD := hD1.weaken (fun _ q _ h => hFc q.1 h)
  clear hP1 hD1 hFc hk_ hz_ hvm_ ht_ hw1
  generalize H1 = H at hP hS ⊢
  obtain ⟨A1, X1, ou1⟩ := u_
  refine lv_istore (lv' := [(5, .int r_1), (4, .int (nI i)), (3, .ref (a 14)), (2, .ref (a 8)), (1, .ref (a 0)), (0, .ref b0)]) hx hb dL_law_628 hl (by decide) rfl (fun ls hl => ?_)
  refine lv_aload_n hx hb dL_law_630 rfl (lv_at hl 3 rfl) ?_
  refine n_arg (L := L) (i := i) (k := 1) hx hb hX hbl hbA hS (by omega) hL dL_law_631 dL_law_632 dL_law_634 dL_law_635 dL_law_636 (by decide) (lv_at hl 5 rfl) (lv_at hl 1 rfl) ?_
  have hFc := freeW hD hS hA
  refine va_calli (va_runV (As := [.int (xs (i + 1))]) (rest := []) ⟨hx, hb, hml, hown, hts⟩ (aX6_free l dC dI cI cV cW cL wa sw ad aK aV sa H.size a A1 X1 th sm ln at_ wl rm q ha Rw ou1 (K 6).1 (xs (i + 1)) hV.ro) (cwV 1 hts (gF2 gL_law_X6_free (by decide +kernel)) rfl rfl rfl hdX6_free ⟨Nat.le_of_ble_eq_true rfl, Nat.le_of_ble_eq_true rfl⟩) (pL_V (A := Fr s) hK (imW hIm hS hFc) hNw (hXm.at hS hFc) hC3 hP hD 80 4 rfl rfl rfl) rfl rfl hl.1 rfl (lv_room (Nat.le_of_ble_eq_true rfl)) dL_law_637 ⟨Nat.le_trans (by omega) hcl, Nat.le_trans (by omega) hsl⟩) hS (fun q _ h => hFc q h) hFc (fun r_2 u2_ t_ H1 locs ht_ hvm_ hw2 hB_ hz_ hk_ hS => ?_)
  obtain ⟨hP1, hD1⟩ := hB_
  rw [ht_] at hP1
  have hP := hP1
  have hD := hD1.weaken (fun _ q _ h => hFc q.1 h)
  clear hP1 hD1 hFc hk_ hz_ hvm_ ht_ u2_
  generalize H1 = H at hP hS ⊢
  refine lv_istore (lv' := [(6, .int r_2), (5, .int r_1), (4, .int (nI i)), (3, .ref (a 14)), (2, .ref (a 8)), (1, .ref (a 0)), (0, .ref b0)]) hx hb dL_law_640 hl (by decide) rfl (fun ls hl => ?_)
  refine lv_aload_n hx hb dL_law_642 rfl (lv_at hl 4 rfl) ?_
  have hFc := freeW hD hS hA
  refine va_calli (va_runV (As := []) (rest := []) ⟨hx, hb, hml, hown, hts⟩ (aX6_thrown l dC dI cI cV cW cL wa sw ad aK aV sa H.size a A1 X1 ((nI (if sIn (xs (i + 1)) 0 5 = true then 0 else 1))) (sm) (ln) (at_) (wl) (rm) (q) (ha) (Rw) ou1) (cwV 0 hts (gF2 gL_law_X6_thrown (by decide +kernel)) rfl rfl rfl hdX6_thrown ⟨Nat.le_of_ble_eq_true rfl, Nat.le_of_ble_eq_true rfl⟩) (pL_V (A := Fr s) hK (imW hIm hS hFc) hNw (hXm.at hS hFc) hC3 hP hD 80 4 rfl rfl rfl) rfl rfl hl.1 rfl (lv_room (Nat.le_of_ble_eq_true rfl)) dL_law_643 ⟨Nat.le_trans (by omega) hcl, Nat.le_trans (by omega) hsl⟩) hS (fun q _ h => hFc q h) hFc (fun r_3 u3_ t_ H1 locs ht_ hvm_ hw3 hB_ hz_ hk_ hS => ?_)
  obtain ⟨hP1, hD1⟩ := hB_
  rw [ht_] at hP1
  have hP := hP1
  have hD := hD1.weaken (fun _ q _ h => hFc q.1 h)
  clear hP1 hD1 hFc hk_ hz_ hvm_ ht_ u3_
  generalize H1 = H at hP hS ⊢
  have fin : W p l e room_1 s m args below meth c H locs (cells + 1 + 0 + 0) (slots + 6 + 0 + 0) Q (F0 m 670 ls []) := by
    refine lv_goto (tgt := 1461) hx hb dL_law_670 (by decide) ?_
    refine W.widen (k := cells + 3) (n := slots + 18) (by omega) (by omega) ?_
    exact kk A1 X1 _ ou1 H locs ls ⟨hP, hD, hS, pl.2.2, lv_sub hl [2, 3, 4, 5, 6] rfl⟩
  refine lv_iload hx hb dL_law_646 (lv_at hl 1 rfl) ?_
  refine lv_icmp_eq (tgt := 653) hx hb dL_law_648 (by decide) (fun _ => ?_) (fun c9 => absurd (hw3.trans pl.1.symm) c9)
  refine lv_iload hx hb dL_law_653 (lv_at hl 1 rfl) ?_
  refine lv_if_ne (tgt := 670) hx hb dL_law_655 (by decide) (fun _ => fin) (fun c9 => ?_)
  refine lv_aload_n hx hb dL_law_658 rfl (lv_at hl 3 rfl) ?_
  refine lv_iconst (v := (nI 0)) hx hb dL_law_659 (by decide) ?_
  refine va_lald hx hb hK hP 86 3 rfl rfl (vp_in_nI (by decide) (by decide)) dL_law_660 ?_
  refine lv_iload hx hb dL_law_661 (lv_at hl 0 rfl) ?_
  refine lv_i2l (v := r_2.toInt64) hx hb dL_law_663 rfl ?_
  exact n_lcmp hx hb (by rw [nI_clamp (by decide), hw2]; exact pl.2.1 (c9.trans nI_0.symm)) dL_law_664 dL_law_665 (by decide) fin
theorem hdL_reach : yL_reach.cls ≠ "java/lang/invoke/MethodHandle" ∧ yL_reach.cls ≠ "java/lang/invoke/VarHandle" ∧ (parseMethodDescriptor yL_reach.desc).map (fun d => d.parameters.length) = some 3 := by decide +kernel
theorem hdX6_reach : yX6_reach.cls = RX6 ∧ yX6_reach.cls ≠ "java/lang/invoke/MethodHandle" ∧ yX6_reach.cls ≠ "java/lang/invoke/VarHandle" ∧ (parseMethodDescriptor yX6_reach.desc).map (fun d => d.parameters.length) = some 1 := by decide +kernel
set_option maxHeartbeats 4000000 in
set_option maxRecDepth 100000 in
theorem LC_reach (C : LC0 p l s m args c b0 L xs dC dI cI cV cW cL wa sw ad aK aV sa) (hi : i + 3 < L) (hcl : cells + 3 ≤ 601024) (hsl : slots + 18 ≤ 7293034) (h : LST s dC dI cI cV cW cL a A X M ou H locs b0 i ls) (kk : ∀ (A : Nat → Nat → Nat) (X : XS) (M : MS) (ou : Nat → Int64) (H : Heap) (locs : List Loc) (ls : Array Slot), LST s dC dI cI cV cW cL a A X M ou H locs b0 i ls → W p l e room_1 s m args below meth c H locs (cells + 3) (slots + 18) Q (F0 m 1461 ls [])) : W p l e room_1 s m args below meth c H locs cells slots Q (F0 m 673 ls []) := by
  obtain ⟨hx, hb, hml, hown, hts, hX, hbl, hL, hK, hIm, hNw, hXm, hC3, hlt⟩ := C
  obtain ⟨hP, hD, hS, hI, hl⟩ := h
  obtain ⟨K, b, n, T⟩ := X
  obtain ⟨th, sm, ln, at_, wl, rm, q, ha, Rw⟩ := M
  have hV : RV (Rw 0) (K 6).1 (K 6).2.1 (K 6).2.2.1 ((K 6).2.2.2 0) ((K 6).2.2.2 1) ((K 6).2.2.2 2) ((K 6).2.2.2 3) ((K 6).2.2.2 4) ((K 6).2.2.2 5) ((K 6).2.2.2 6) ((K 6).2.2.2 7) := hI.1
  have hn6 : n ≤ 6 := hI.2.1
  have hsm : sm = n := hI.2.2.1
  have hsm6 : sm ≤ 6 := by omega
  have hSR : SR (Rw 2) K n := hI.2.2.2.1
  have hnn : T.1 ≤ 60 := hI.2.2.2.2.1
  have hln : ln = T.1 := hI.2.2.2.2.2.1
  have hln6 : ln ≤ 60 := by omega
  have hBu : Rw 3 = T.2.2.2.1 := hI.2.2.2.2.2.2
  have hA : ∀ q : Nat, s.heap.size ≤ q → Fr s q := fun _ h => h
  have hbA : ¬ Fr s b0 := Nat.not_le.mpr hbl
  refine lv_aload_n hx hb dL_law_673 rfl (lv_at hl 3 rfl) ?_
  refine n_arg (L := L) (i := i) (k := 1) hx hb hX hbl hbA hS (by omega) hL dL_law_674 dL_law_675 dL_law_677 dL_law_678 dL_law_679 (by decide) (lv_at hl 4 rfl) (lv_at hl 0 rfl) ?_
  refine lv_aload_n hx hb dL_law_680 rfl (lv_at hl 1 rfl) ?_
  have hFc := freeW hD hS hA
  refine va_calli (vx_runSW (hh := [(0, 9, 12, 13)]) (As := [.ref (a 0), .int (xs (i + 1)), .ref (a 14)]) (rest := []) ⟨hx, hb, hml, hown, hts⟩ (hL_reach l dC dI cI cV cW cL wa sw ad aK aV sa H.size a A hlt K b n T (th, sm, ln, at_, wl, rm, q, ha, Rw) ou (xs (i + 1)) ) (vx_cwSW 3 hts (gF2 gL_law_L_reach (by decide +kernel)) rfl rfl rfl hdL_reach ⟨Nat.le_of_ble_eq_true rfl, Nat.le_of_ble_eq_true rfl⟩) (pL_S (A := Fr s) hK (imW hIm hS hFc) hNw (hXm.at hS hFc) hC3 hP hD) rfl rfl hl.1 rfl (lv_room (Nat.le_of_ble_eq_true rfl)) dL_law_681 ⟨Nat.le_trans (by omega) hcl, Nat.le_trans (by omega) hsl⟩) hS (fun q _ h => hFc q h) hFc (fun r_1 u_ t_ H1 locs ht_ hvm_ hw1 hB_ hz_ hk_ hS => ?_)
  obtain ⟨hP1, hD1⟩ := hB_
  rw [ht_] at hP1
  have pl := PL_reach hI hw1
  have hP := hP1
  have hD := hD1.weaken (fun _ q _ h => hFc q.1 h)
  clear hP1 hD1 hFc hk_ hz_ hvm_ ht_ hw1
  generalize H1 = H at hP hS ⊢
  obtain ⟨A1, X1, ou1⟩ := u_
  refine lv_istore (lv' := [(5, .int r_1), (4, .int (nI i)), (3, .ref (a 14)), (2, .ref (a 8)), (1, .ref (a 0)), (0, .ref b0)]) hx hb dL_law_684 hl (by decide) rfl (fun ls hl => ?_)
  refine lv_aload_n hx hb dL_law_686 rfl (lv_at hl 3 rfl) ?_
  refine n_arg (L := L) (i := i) (k := 1) hx hb hX hbl hbA hS (by omega) hL dL_law_687 dL_law_688 dL_law_690 dL_law_691 dL_law_692 (by decide) (lv_at hl 5 rfl) (lv_at hl 1 rfl) ?_
  have hFc := freeW hD hS hA
  refine va_calli (va_runV (As := [.int (xs (i + 1))]) (rest := []) ⟨hx, hb, hml, hown, hts⟩ (aX6_reach l dC dI cI cV cW cL wa sw ad aK aV sa H.size a A1 X1 th sm ln at_ wl rm q ha Rw ou1 (K 6).1 (xs (i + 1)) hV.ro) (cwV 1 hts (gF2 gL_law_X6_reach (by decide +kernel)) rfl rfl rfl hdX6_reach ⟨Nat.le_of_ble_eq_true rfl, Nat.le_of_ble_eq_true rfl⟩) (pL_V (A := Fr s) hK (imW hIm hS hFc) hNw (hXm.at hS hFc) hC3 hP hD 80 4 rfl rfl rfl) rfl rfl hl.1 rfl (lv_room (Nat.le_of_ble_eq_true rfl)) dL_law_693 ⟨Nat.le_trans (by omega) hcl, Nat.le_trans (by omega) hsl⟩) hS (fun q _ h => hFc q h) hFc (fun r_2 u2_ t_ H1 locs ht_ hvm_ hw2 hB_ hz_ hk_ hS => ?_)
  obtain ⟨hP1, hD1⟩ := hB_
  rw [ht_] at hP1
  have hP := hP1
  have hD := hD1.weaken (fun _ q _ h => hFc q.1 h)
  clear hP1 hD1 hFc hk_ hz_ hvm_ ht_ u2_
  generalize H1 = H at hP hS ⊢
  refine lv_istore (lv' := [(6, .int r_2), (5, .int r_1), (4, .int (nI i)), (3, .ref (a 14)), (2, .ref (a 8)), (1, .ref (a 0)), (0, .ref b0)]) hx hb dL_law_696 hl (by decide) rfl (fun ls hl => ?_)
  refine lv_aload_n hx hb dL_law_698 rfl (lv_at hl 4 rfl) ?_
  have hFc := freeW hD hS hA
  refine va_calli (va_runV (As := []) (rest := []) ⟨hx, hb, hml, hown, hts⟩ (aX6_thrown l dC dI cI cV cW cL wa sw ad aK aV sa H.size a A1 X1 ((nI (if sIn (xs (i + 1)) 0 5 = true then 0 else 1))) (sm) (ln) (at_) (wl) (rm) (q) (ha) (Rw) ou1) (cwV 0 hts (gF2 gL_law_X6_thrown (by decide +kernel)) rfl rfl rfl hdX6_thrown ⟨Nat.le_of_ble_eq_true rfl, Nat.le_of_ble_eq_true rfl⟩) (pL_V (A := Fr s) hK (imW hIm hS hFc) hNw (hXm.at hS hFc) hC3 hP hD 80 4 rfl rfl rfl) rfl rfl hl.1 rfl (lv_room (Nat.le_of_ble_eq_true rfl)) dL_law_699 ⟨Nat.le_trans (by omega) hcl, Nat.le_trans (by omega) hsl⟩) hS (fun q _ h => hFc q h) hFc (fun r_3 u3_ t_ H1 locs ht_ hvm_ hw3 hB_ hz_ hk_ hS => ?_)
  obtain ⟨hP1, hD1⟩ := hB_
  rw [ht_] at hP1
  have hP := hP1
  have hD := hD1.weaken (fun _ q _ h => hFc q.1 h)
  clear hP1 hD1 hFc hk_ hz_ hvm_ ht_ u3_
  generalize H1 = H at hP hS ⊢
  have fin : W p l e room_1 s m args below meth c H locs (cells + 1 + 0 + 0) (slots + 6 + 0 + 0) Q (F0 m 726 ls []) := by
    refine lv_goto (tgt := 1461) hx hb dL_law_726 (by decide) ?_
    refine W.widen (k := cells + 3) (n := slots + 18) (by omega) (by omega) ?_
    exact kk A1 X1 _ ou1 H locs ls ⟨hP, hD, hS, pl.2.2, lv_sub hl [2, 3, 4, 5, 6] rfl⟩
  refine lv_iload hx hb dL_law_702 (lv_at hl 1 rfl) ?_
  refine lv_icmp_eq (tgt := 709) hx hb dL_law_704 (by decide) (fun _ => ?_) (fun c9 => absurd (hw3.trans pl.1.symm) c9)
  refine lv_iload hx hb dL_law_709 (lv_at hl 1 rfl) ?_
  refine lv_if_ne (tgt := 726) hx hb dL_law_711 (by decide) (fun _ => fin) (fun c9 => ?_)
  refine lv_aload_n hx hb dL_law_714 rfl (lv_at hl 3 rfl) ?_
  refine lv_iconst (v := (nI 0)) hx hb dL_law_715 (by decide) ?_
  refine va_lald hx hb hK hP 86 3 rfl rfl (vp_in_nI (by decide) (by decide)) dL_law_716 ?_
  refine lv_iload hx hb dL_law_717 (lv_at hl 0 rfl) ?_
  refine lv_i2l (v := r_2.toInt64) hx hb dL_law_719 rfl ?_
  exact n_lcmp hx hb (by rw [nI_clamp (by decide), hw2]; exact pl.2.1 (c9.trans nI_0.symm)) dL_law_720 dL_law_721 (by decide) fin
theorem hdL_call : yL_call.cls ≠ "java/lang/invoke/MethodHandle" ∧ yL_call.cls ≠ "java/lang/invoke/VarHandle" ∧ (parseMethodDescriptor yL_call.desc).map (fun d => d.parameters.length) = some 3 := by decide +kernel
theorem hdX6_call : yX6_call.cls = RX6 ∧ yX6_call.cls ≠ "java/lang/invoke/MethodHandle" ∧ yX6_call.cls ≠ "java/lang/invoke/VarHandle" ∧ (parseMethodDescriptor yX6_call.desc).map (fun d => d.parameters.length) = some 1 := by decide +kernel
set_option maxHeartbeats 4000000 in
set_option maxRecDepth 100000 in
theorem LC_call (C : LC0 p l s m args c b0 L xs dC dI cI cV cW cL wa sw ad aK aV sa) (hi : i + 3 < L) (hcl : cells + 3 ≤ 601024) (hsl : slots + 18 ≤ 7293034) (h : LST s dC dI cI cV cW cL a A X M ou H locs b0 i ls) (kk : ∀ (A : Nat → Nat → Nat) (X : XS) (M : MS) (ou : Nat → Int64) (H : Heap) (locs : List Loc) (ls : Array Slot), LST s dC dI cI cV cW cL a A X M ou H locs b0 i ls → W p l e room_1 s m args below meth c H locs (cells + 3) (slots + 18) Q (F0 m 1461 ls [])) : W p l e room_1 s m args below meth c H locs cells slots Q (F0 m 729 ls []) := by
  obtain ⟨hx, hb, hml, hown, hts, hX, hbl, hL, hK, hIm, hNw, hXm, hC3, hlt⟩ := C
  obtain ⟨hP, hD, hS, hI, hl⟩ := h
  obtain ⟨K, b, n, T⟩ := X
  obtain ⟨th, sm, ln, at_, wl, rm, q, ha, Rw⟩ := M
  have hV : RV (Rw 0) (K 6).1 (K 6).2.1 (K 6).2.2.1 ((K 6).2.2.2 0) ((K 6).2.2.2 1) ((K 6).2.2.2 2) ((K 6).2.2.2 3) ((K 6).2.2.2 4) ((K 6).2.2.2 5) ((K 6).2.2.2 6) ((K 6).2.2.2 7) := hI.1
  have hn6 : n ≤ 6 := hI.2.1
  have hsm : sm = n := hI.2.2.1
  have hsm6 : sm ≤ 6 := by omega
  have hSR : SR (Rw 2) K n := hI.2.2.2.1
  have hnn : T.1 ≤ 60 := hI.2.2.2.2.1
  have hln : ln = T.1 := hI.2.2.2.2.2.1
  have hln6 : ln ≤ 60 := by omega
  have hBu : Rw 3 = T.2.2.2.1 := hI.2.2.2.2.2.2
  have hA : ∀ q : Nat, s.heap.size ≤ q → Fr s q := fun _ h => h
  have hbA : ¬ Fr s b0 := Nat.not_le.mpr hbl
  refine lv_aload_n hx hb dL_law_729 rfl (lv_at hl 3 rfl) ?_
  refine n_arg (L := L) (i := i) (k := 1) hx hb hX hbl hbA hS (by omega) hL dL_law_730 dL_law_731 dL_law_733 dL_law_734 dL_law_735 (by decide) (lv_at hl 4 rfl) (lv_at hl 0 rfl) ?_
  refine lv_aload_n hx hb dL_law_736 rfl (lv_at hl 1 rfl) ?_
  have hFc := freeW hD hS hA
  refine va_calli (vx_runSW (hh := [(0, 9, 12, 13)]) (As := [.ref (a 0), .int (xs (i + 1)), .ref (a 14)]) (rest := []) ⟨hx, hb, hml, hown, hts⟩ (hL_call l dC dI cI cV cW cL wa sw ad aK aV sa H.size a A hlt K b n T (th, sm, ln, at_, wl, rm, q, ha, Rw) ou (xs (i + 1)) hV.vo hn6) (vx_cwSW 3 hts (gF2 gL_law_L_call (by decide +kernel)) rfl rfl rfl hdL_call ⟨Nat.le_of_ble_eq_true rfl, Nat.le_of_ble_eq_true rfl⟩) (pL_S (A := Fr s) hK (imW hIm hS hFc) hNw (hXm.at hS hFc) hC3 hP hD) rfl rfl hl.1 rfl (lv_room (Nat.le_of_ble_eq_true rfl)) dL_law_737 ⟨Nat.le_trans (by omega) hcl, Nat.le_trans (by omega) hsl⟩) hS (fun q _ h => hFc q h) hFc (fun r_1 u_ t_ H1 locs ht_ hvm_ hw1 hB_ hz_ hk_ hS => ?_)
  obtain ⟨hP1, hD1⟩ := hB_
  rw [ht_] at hP1
  have pl := PL_call hI hw1
  have hP := hP1
  have hD := hD1.weaken (fun _ q _ h => hFc q.1 h)
  clear hP1 hD1 hFc hk_ hz_ hvm_ ht_ hw1
  generalize H1 = H at hP hS ⊢
  obtain ⟨A1, X1, ou1⟩ := u_
  refine lv_istore (lv' := [(5, .int r_1), (4, .int (nI i)), (3, .ref (a 14)), (2, .ref (a 8)), (1, .ref (a 0)), (0, .ref b0)]) hx hb dL_law_740 hl (by decide) rfl (fun ls hl => ?_)
  refine lv_aload_n hx hb dL_law_742 rfl (lv_at hl 3 rfl) ?_
  refine n_arg (L := L) (i := i) (k := 1) hx hb hX hbl hbA hS (by omega) hL dL_law_743 dL_law_744 dL_law_746 dL_law_747 dL_law_748 (by decide) (lv_at hl 5 rfl) (lv_at hl 1 rfl) ?_
  have hFc := freeW hD hS hA
  refine va_calli (va_runV (As := [.int (xs (i + 1))]) (rest := []) ⟨hx, hb, hml, hown, hts⟩ (aX6_call l dC dI cI cV cW cL wa sw ad aK aV sa H.size a A1 X1 th sm ln at_ wl rm q ha Rw ou1 (K 6).1 (xs (i + 1)) hV.ro hsm6) (cwV 1 hts (gF2 gL_law_X6_call (by decide +kernel)) rfl rfl rfl hdX6_call ⟨Nat.le_of_ble_eq_true rfl, Nat.le_of_ble_eq_true rfl⟩) (pL_V (A := Fr s) hK (imW hIm hS hFc) hNw (hXm.at hS hFc) hC3 hP hD 80 4 rfl rfl rfl) rfl rfl hl.1 rfl (lv_room (Nat.le_of_ble_eq_true rfl)) dL_law_749 ⟨Nat.le_trans (by omega) hcl, Nat.le_trans (by omega) hsl⟩) hS (fun q _ h => hFc q h) hFc (fun r_2 u2_ t_ H1 locs ht_ hvm_ hw2 hB_ hz_ hk_ hS => ?_)
  obtain ⟨hP1, hD1⟩ := hB_
  rw [ht_] at hP1
  have hP := hP1
  have hD := hD1.weaken (fun _ q _ h => hFc q.1 h)
  clear hP1 hD1 hFc hk_ hz_ hvm_ ht_ u2_
  generalize H1 = H at hP hS ⊢
  refine lv_istore (lv' := [(6, .int r_2), (5, .int r_1), (4, .int (nI i)), (3, .ref (a 14)), (2, .ref (a 8)), (1, .ref (a 0)), (0, .ref b0)]) hx hb dL_law_752 hl (by decide) rfl (fun ls hl => ?_)
  refine lv_aload_n hx hb dL_law_754 rfl (lv_at hl 4 rfl) ?_
  have hFc := freeW hD hS hA
  refine va_calli (va_runV (As := []) (rest := []) ⟨hx, hb, hml, hown, hts⟩ (aX6_thrown l dC dI cI cV cW cL wa sw ad aK aV sa H.size a A1 X1 ((nI (if sIn (xs (i + 1)) 0 ((Rw 0) 0 - 1) = true then 0 else 1))) (if sIn (xs (i + 1)) 0 ((Rw 0) 0 - 1) = true then svN sm else sm) (ln) (at_) (wl) (rm) (q) (ha) (mk5 (if sIn (xs (i + 1)) 0 ((Rw 0) 0 - 1) = true then fCalls (Rw 0) (ix (xs (i + 1))) else (Rw 0)) (Rw 1) (if sIn (xs (i + 1)) 0 ((Rw 0) 0 - 1) = true then svV (Rw 0) (Rw 2) sm else (Rw 2)) (Rw 3) (Rw 4)) ou1) (cwV 0 hts (gF2 gL_law_X6_thrown (by decide +kernel)) rfl rfl rfl hdX6_thrown ⟨Nat.le_of_ble_eq_true rfl, Nat.le_of_ble_eq_true rfl⟩) (pL_V (A := Fr s) hK (imW hIm hS hFc) hNw (hXm.at hS hFc) hC3 hP hD 80 4 rfl rfl rfl) rfl rfl hl.1 rfl (lv_room (Nat.le_of_ble_eq_true rfl)) dL_law_755 ⟨Nat.le_trans (by omega) hcl, Nat.le_trans (by omega) hsl⟩) hS (fun q _ h => hFc q h) hFc (fun r_3 u3_ t_ H1 locs ht_ hvm_ hw3 hB_ hz_ hk_ hS => ?_)
  obtain ⟨hP1, hD1⟩ := hB_
  rw [ht_] at hP1
  have hP := hP1
  have hD := hD1.weaken (fun _ q _ h => hFc q.1 h)
  clear hP1 hD1 hFc hk_ hz_ hvm_ ht_ u3_
  generalize H1 = H at hP hS ⊢
  have fin : W p l e room_1 s m args below meth c H locs (cells + 1 + 0 + 0) (slots + 6 + 0 + 0) Q (F0 m 782 ls []) := by
    refine lv_goto (tgt := 1461) hx hb dL_law_782 (by decide) ?_
    refine W.widen (k := cells + 3) (n := slots + 18) (by omega) (by omega) ?_
    exact kk A1 X1 _ ou1 H locs ls ⟨hP, hD, hS, pl.2.2, lv_sub hl [2, 3, 4, 5, 6] rfl⟩
  refine lv_iload hx hb dL_law_758 (lv_at hl 1 rfl) ?_
  refine lv_icmp_eq (tgt := 765) hx hb dL_law_760 (by decide) (fun _ => ?_) (fun c9 => absurd (hw3.trans pl.1.symm) c9)
  refine lv_iload hx hb dL_law_765 (lv_at hl 1 rfl) ?_
  refine lv_if_ne (tgt := 782) hx hb dL_law_767 (by decide) (fun _ => fin) (fun c9 => ?_)
  refine lv_aload_n hx hb dL_law_770 rfl (lv_at hl 3 rfl) ?_
  refine lv_iconst (v := (nI 0)) hx hb dL_law_771 (by decide) ?_
  refine va_lald hx hb hK hP 86 3 rfl rfl (vp_in_nI (by decide) (by decide)) dL_law_772 ?_
  refine lv_iload hx hb dL_law_773 (lv_at hl 0 rfl) ?_
  refine lv_i2l (v := r_2.toInt64) hx hb dL_law_775 rfl ?_
  exact n_lcmp hx hb (by rw [nI_clamp (by decide), hw2]; exact pl.2.1 (c9.trans nI_0.symm)) dL_law_776 dL_law_777 (by decide) fin
theorem hdL_misplace : yL_misplace.cls ≠ "java/lang/invoke/MethodHandle" ∧ yL_misplace.cls ≠ "java/lang/invoke/VarHandle" ∧ (parseMethodDescriptor yL_misplace.desc).map (fun d => d.parameters.length) = some 4 := by decide +kernel
theorem hdX6_misplace : yX6_misplace.cls = RX6 ∧ yX6_misplace.cls ≠ "java/lang/invoke/MethodHandle" ∧ yX6_misplace.cls ≠ "java/lang/invoke/VarHandle" ∧ (parseMethodDescriptor yX6_misplace.desc).map (fun d => d.parameters.length) = some 2 := by decide +kernel
set_option maxHeartbeats 4000000 in
set_option maxRecDepth 100000 in
theorem LC_misplace (C : LC0 p l s m args c b0 L xs dC dI cI cV cW cL wa sw ad aK aV sa) (hi : i + 3 < L) (hcl : cells + 3 ≤ 601024) (hsl : slots + 18 ≤ 7293034) (h : LST s dC dI cI cV cW cL a A X M ou H locs b0 i ls) (kk : ∀ (A : Nat → Nat → Nat) (X : XS) (M : MS) (ou : Nat → Int64) (H : Heap) (locs : List Loc) (ls : Array Slot), LST s dC dI cI cV cW cL a A X M ou H locs b0 i ls → W p l e room_1 s m args below meth c H locs (cells + 3) (slots + 18) Q (F0 m 1461 ls [])) : W p l e room_1 s m args below meth c H locs cells slots Q (F0 m 785 ls []) := by
  obtain ⟨hx, hb, hml, hown, hts, hX, hbl, hL, hK, hIm, hNw, hXm, hC3, hlt⟩ := C
  obtain ⟨hP, hD, hS, hI, hl⟩ := h
  obtain ⟨K, b, n, T⟩ := X
  obtain ⟨th, sm, ln, at_, wl, rm, q, ha, Rw⟩ := M
  have hV : RV (Rw 0) (K 6).1 (K 6).2.1 (K 6).2.2.1 ((K 6).2.2.2 0) ((K 6).2.2.2 1) ((K 6).2.2.2 2) ((K 6).2.2.2 3) ((K 6).2.2.2 4) ((K 6).2.2.2 5) ((K 6).2.2.2 6) ((K 6).2.2.2 7) := hI.1
  have hn6 : n ≤ 6 := hI.2.1
  have hsm : sm = n := hI.2.2.1
  have hsm6 : sm ≤ 6 := by omega
  have hSR : SR (Rw 2) K n := hI.2.2.2.1
  have hnn : T.1 ≤ 60 := hI.2.2.2.2.1
  have hln : ln = T.1 := hI.2.2.2.2.2.1
  have hln6 : ln ≤ 60 := by omega
  have hBu : Rw 3 = T.2.2.2.1 := hI.2.2.2.2.2.2
  have hA : ∀ q : Nat, s.heap.size ≤ q → Fr s q := fun _ h => h
  have hbA : ¬ Fr s b0 := Nat.not_le.mpr hbl
  refine lv_aload_n hx hb dL_law_785 rfl (lv_at hl 3 rfl) ?_
  refine n_arg (L := L) (i := i) (k := 1) hx hb hX hbl hbA hS (by omega) hL dL_law_786 dL_law_787 dL_law_789 dL_law_790 dL_law_791 (by decide) (lv_at hl 4 rfl) (lv_at hl 0 rfl) ?_
  refine n_arg (L := L) (i := i) (k := 2) hx hb hX hbl hbA hS (by omega) hL dL_law_792 dL_law_793 dL_law_795 dL_law_796 dL_law_797 (by decide) (lv_at hl 4 rfl) (lv_at hl 0 rfl) ?_
  refine lv_aload_n hx hb dL_law_798 rfl (lv_at hl 1 rfl) ?_
  have hFc := freeW hD hS hA
  refine va_calli (vx_runSW (hh := [(0, 10, 13, 13), (0, 10, 17, 17)]) (As := [.ref (a 0), .int (xs (i + 1)), .int (xs (i + 2)), .ref (a 14)]) (rest := []) ⟨hx, hb, hml, hown, hts⟩ (hL_misplace l dC dI cI cV cW cL wa sw ad aK aV sa H.size a A hlt K b n T (th, sm, ln, at_, wl, rm, q, ha, Rw) ou (xs (i + 1)) (xs (i + 2)) hV.vo hn6) (vx_cwSW 4 hts (gF2 gL_law_L_misplace (by decide +kernel)) rfl rfl rfl hdL_misplace ⟨Nat.le_of_ble_eq_true rfl, Nat.le_of_ble_eq_true rfl⟩) (pL_S (A := Fr s) hK (imW hIm hS hFc) hNw (hXm.at hS hFc) hC3 hP hD) rfl rfl hl.1 rfl (lv_room (Nat.le_of_ble_eq_true rfl)) dL_law_799 ⟨Nat.le_trans (by omega) hcl, Nat.le_trans (by omega) hsl⟩) hS (fun q _ h => hFc q h) hFc (fun r_1 u_ t_ H1 locs ht_ hvm_ hw1 hB_ hz_ hk_ hS => ?_)
  obtain ⟨hP1, hD1⟩ := hB_
  rw [ht_] at hP1
  have pl := PL_misplace hI hw1
  have hP := hP1
  have hD := hD1.weaken (fun _ q _ h => hFc q.1 h)
  clear hP1 hD1 hFc hk_ hz_ hvm_ ht_ hw1
  generalize H1 = H at hP hS ⊢
  obtain ⟨A1, X1, ou1⟩ := u_
  refine lv_istore (lv' := [(5, .int r_1), (4, .int (nI i)), (3, .ref (a 14)), (2, .ref (a 8)), (1, .ref (a 0)), (0, .ref b0)]) hx hb dL_law_802 hl (by decide) rfl (fun ls hl => ?_)
  refine lv_aload_n hx hb dL_law_804 rfl (lv_at hl 3 rfl) ?_
  refine n_arg (L := L) (i := i) (k := 1) hx hb hX hbl hbA hS (by omega) hL dL_law_805 dL_law_806 dL_law_808 dL_law_809 dL_law_810 (by decide) (lv_at hl 5 rfl) (lv_at hl 1 rfl) ?_
  refine n_arg (L := L) (i := i) (k := 2) hx hb hX hbl hbA hS (by omega) hL dL_law_811 dL_law_812 dL_law_814 dL_law_815 dL_law_816 (by decide) (lv_at hl 5 rfl) (lv_at hl 1 rfl) ?_
  have hFc := freeW hD hS hA
  refine va_calli (va_runV (As := [.int (xs (i + 1)), .int (xs (i + 2))]) (rest := []) ⟨hx, hb, hml, hown, hts⟩ (aX6_misplace l dC dI cI cV cW cL wa sw ad aK aV sa H.size a A1 X1 th sm ln at_ wl rm q ha Rw ou1 (K 6).1 (xs (i + 1)) (xs (i + 2)) hV.ro hsm6) (cwV 2 hts (gF2 gL_law_X6_misplace (by decide +kernel)) rfl rfl rfl hdX6_misplace ⟨Nat.le_of_ble_eq_true rfl, Nat.le_of_ble_eq_true rfl⟩) (pL_V (A := Fr s) hK (imW hIm hS hFc) hNw (hXm.at hS hFc) hC3 hP hD 80 4 rfl rfl rfl) rfl rfl hl.1 rfl (lv_room (Nat.le_of_ble_eq_true rfl)) dL_law_817 ⟨Nat.le_trans (by omega) hcl, Nat.le_trans (by omega) hsl⟩) hS (fun q _ h => hFc q h) hFc (fun r_2 u2_ t_ H1 locs ht_ hvm_ hw2 hB_ hz_ hk_ hS => ?_)
  obtain ⟨hP1, hD1⟩ := hB_
  rw [ht_] at hP1
  have hP := hP1
  have hD := hD1.weaken (fun _ q _ h => hFc q.1 h)
  clear hP1 hD1 hFc hk_ hz_ hvm_ ht_ u2_
  generalize H1 = H at hP hS ⊢
  refine lv_istore (lv' := [(6, .int r_2), (5, .int r_1), (4, .int (nI i)), (3, .ref (a 14)), (2, .ref (a 8)), (1, .ref (a 0)), (0, .ref b0)]) hx hb dL_law_820 hl (by decide) rfl (fun ls hl => ?_)
  refine lv_aload_n hx hb dL_law_822 rfl (lv_at hl 4 rfl) ?_
  have hFc := freeW hD hS hA
  refine va_calli (va_runV (As := []) (rest := []) ⟨hx, hb, hml, hown, hts⟩ (aX6_thrown l dC dI cI cV cW cL wa sw ad aK aV sa H.size a A1 X1 ((nI (cdMp (Rw 0) (K 6).1 (xs (i + 1)) (xs (i + 2))))) (if cdMp (Rw 0) (K 6).1 (xs (i + 1)) (xs (i + 2)) = 0 then svN sm else sm) (ln) (at_) (wl) (rm) (q) (ha) (mk5 (if cdMp (Rw 0) (K 6).1 (xs (i + 1)) (xs (i + 2)) = 0 then upd (Rw 0) (15 + 5 * (ix (xs (i + 1))) + 1) (xs (i + 2)) else (Rw 0)) (Rw 1) (if cdMp (Rw 0) (K 6).1 (xs (i + 1)) (xs (i + 2)) = 0 then svV (Rw 0) (Rw 2) sm else (Rw 2)) (Rw 3) (Rw 4)) ou1) (cwV 0 hts (gF2 gL_law_X6_thrown (by decide +kernel)) rfl rfl rfl hdX6_thrown ⟨Nat.le_of_ble_eq_true rfl, Nat.le_of_ble_eq_true rfl⟩) (pL_V (A := Fr s) hK (imW hIm hS hFc) hNw (hXm.at hS hFc) hC3 hP hD 80 4 rfl rfl rfl) rfl rfl hl.1 rfl (lv_room (Nat.le_of_ble_eq_true rfl)) dL_law_823 ⟨Nat.le_trans (by omega) hcl, Nat.le_trans (by omega) hsl⟩) hS (fun q _ h => hFc q h) hFc (fun r_3 u3_ t_ H1 locs ht_ hvm_ hw3 hB_ hz_ hk_ hS => ?_)
  obtain ⟨hP1, hD1⟩ := hB_
  rw [ht_] at hP1
  have hP := hP1
  have hD := hD1.weaken (fun _ q _ h => hFc q.1 h)
  clear hP1 hD1 hFc hk_ hz_ hvm_ ht_ u3_
  generalize H1 = H at hP hS ⊢
  have fin : W p l e room_1 s m args below meth c H locs (cells + 3 + 0 + 0) (slots + 18 + 0 + 0) Q (F0 m 850 ls []) := by
    refine lv_goto (tgt := 1461) hx hb dL_law_850 (by decide) ?_
    refine W.widen (k := cells + 3) (n := slots + 18) (by omega) (by omega) ?_
    exact kk A1 X1 _ ou1 H locs ls ⟨hP, hD, hS, pl.2.2, lv_sub hl [2, 3, 4, 5, 6] rfl⟩
  refine lv_iload hx hb dL_law_826 (lv_at hl 1 rfl) ?_
  refine lv_icmp_eq (tgt := 833) hx hb dL_law_828 (by decide) (fun _ => ?_) (fun c9 => absurd (hw3.trans pl.1.symm) c9)
  refine lv_iload hx hb dL_law_833 (lv_at hl 1 rfl) ?_
  refine lv_if_ne (tgt := 850) hx hb dL_law_835 (by decide) (fun _ => fin) (fun c9 => ?_)
  refine lv_aload_n hx hb dL_law_838 rfl (lv_at hl 3 rfl) ?_
  refine lv_iconst (v := (nI 0)) hx hb dL_law_839 (by decide) ?_
  refine va_lald hx hb hK hP 86 3 rfl rfl (vp_in_nI (by decide) (by decide)) dL_law_840 ?_
  refine lv_iload hx hb dL_law_841 (lv_at hl 0 rfl) ?_
  refine lv_i2l (v := r_2.toInt64) hx hb dL_law_843 rfl ?_
  exact n_lcmp hx hb (by rw [nI_clamp (by decide), hw2]; exact pl.2.1 (c9.trans nI_0.symm)) dL_law_844 dL_law_845 (by decide) fin
-- hdX5_misplaced stands above
theorem hdX6_misplaced : yX6_misplaced.cls = RX6 ∧ yX6_misplaced.cls ≠ "java/lang/invoke/MethodHandle" ∧ yX6_misplaced.cls ≠ "java/lang/invoke/VarHandle" ∧ (parseMethodDescriptor yX6_misplaced.desc).map (fun d => d.parameters.length) = some 0 := by decide +kernel
set_option maxHeartbeats 4000000 in
set_option maxRecDepth 100000 in
theorem LC_misplaced (C : LC0 p l s m args c b0 L xs dC dI cI cV cW cL wa sw ad aK aV sa) (hi : i + 3 < L) (hcl : cells + 3 ≤ 601024) (hsl : slots + 18 ≤ 7293034) (h : LST s dC dI cI cV cW cL a A X M ou H locs b0 i ls) (kk : ∀ (A : Nat → Nat → Nat) (X : XS) (M : MS) (ou : Nat → Int64) (H : Heap) (locs : List Loc) (ls : Array Slot), LST s dC dI cI cV cW cL a A X M ou H locs b0 i ls → W p l e room_1 s m args below meth c H locs (cells + 3) (slots + 18) Q (F0 m 1461 ls [])) : W p l e room_1 s m args below meth c H locs cells slots Q (F0 m 866 ls []) := by
  obtain ⟨hx, hb, hml, hown, hts, hX, hbl, hL, hK, hIm, hNw, hXm, hC3, hlt⟩ := C
  obtain ⟨hP, hD, hS, hI, hl⟩ := h
  obtain ⟨K, b, n, T⟩ := X
  obtain ⟨th, sm, ln, at_, wl, rm, q, ha, Rw⟩ := M
  have hV : RV (Rw 0) (K 6).1 (K 6).2.1 (K 6).2.2.1 ((K 6).2.2.2 0) ((K 6).2.2.2 1) ((K 6).2.2.2 2) ((K 6).2.2.2 3) ((K 6).2.2.2 4) ((K 6).2.2.2 5) ((K 6).2.2.2 6) ((K 6).2.2.2 7) := hI.1
  have hn6 : n ≤ 6 := hI.2.1
  have hsm : sm = n := hI.2.2.1
  have hsm6 : sm ≤ 6 := by omega
  have hSR : SR (Rw 2) K n := hI.2.2.2.1
  have hnn : T.1 ≤ 60 := hI.2.2.2.2.1
  have hln : ln = T.1 := hI.2.2.2.2.2.1
  have hln6 : ln ≤ 60 := by omega
  have hBu : Rw 3 = T.2.2.2.1 := hI.2.2.2.2.2.2
  have hA : ∀ q : Nat, s.heap.size ≤ q → Fr s q := fun _ h => h
  have hbA : ¬ Fr s b0 := Nat.not_le.mpr hbl
  refine lv_aload_n hx hb dL_law_866 rfl (lv_at hl 3 rfl) ?_
  have hFc := freeW hD hS hA
  refine va_calli (va_runV (As := []) (rest := []) ⟨hx, hb, hml, hown, hts⟩ (aX5_misplaced l dC dI cI cV cW cL wa sw ad aK aV sa H.size a A K b n T (th, sm, ln, at_, wl, rm, q, ha, Rw) ou hV.hc) (cwV 0 hts (gF2 gL_law_X5_misplaced (by decide +kernel)) rfl rfl rfl hdX5_misplaced ⟨Nat.le_of_ble_eq_true rfl, Nat.le_of_ble_eq_true rfl⟩) (pL_V (A := Fr s) hK (imW hIm hS hFc) hNw (hXm.at hS hFc) hC3 hP hD 0 3 rfl rfl rfl) rfl rfl hl.1 rfl (lv_room (Nat.le_of_ble_eq_true rfl)) dL_law_867 ⟨Nat.le_trans (by omega) hcl, Nat.le_trans (by omega) hsl⟩) hS (fun q _ h => hFc q h) hFc (fun r_1 u_ t_ H1 locs ht_ hvm_ hw1 hB_ hz_ hk_ hS => ?_)
  obtain ⟨hP1, hD1⟩ := hB_
  rw [ht_] at hP1
  have hP := hP1
  have hD := hD1.weaken (fun _ q _ h => hFc q.1 h)
  clear hP1 hD1 hFc hk_ hz_ hvm_ ht_ u_
  generalize H1 = H at hP hS ⊢
  refine lv_aload_n hx hb dL_law_870 rfl (lv_at hl 2 rfl) ?_
  have hFc := freeW hD hS hA
  refine va_calli (va_runV (As := []) (rest := [.int r_1]) ⟨hx, hb, hml, hown, hts⟩ (aX6_misplaced l dC dI cI cV cW cL wa sw ad aK aV sa H.size a A (K, b, n, T) th sm ln at_ wl rm q ha Rw ou (K 6).1 hV.ro) (cwV 0 hts (gF2 gL_law_X6_misplaced (by decide +kernel)) rfl rfl rfl hdX6_misplaced ⟨Nat.le_of_ble_eq_true rfl, Nat.le_of_ble_eq_true rfl⟩) (pL_V (A := Fr s) hK (imW hIm hS hFc) hNw (hXm.at hS hFc) hC3 hP hD 80 4 rfl rfl rfl) rfl rfl hl.1 rfl (lv_room (Nat.le_of_ble_eq_true rfl)) dL_law_871 ⟨Nat.le_trans (by omega) hcl, Nat.le_trans (by omega) hsl⟩) hS (fun q _ h => hFc q h) hFc (fun r_2 u2_ t_ H1 locs ht_ hvm_ hw2 hB_ hz_ hk_ hS => ?_)
  obtain ⟨hP1, hD1⟩ := hB_
  rw [ht_] at hP1
  have hP := hP1
  have hD := hD1.weaken (fun _ q _ h => hFc q.1 h)
  clear hP1 hD1 hFc hk_ hz_ hvm_ ht_ u2_
  generalize H1 = H at hP hS ⊢
  have hv : r_1 = r_2 := hw1.trans ((hV.many _ (Nat.le_refl _)).trans hw2.symm)
  refine lv_icmp_eq (tgt := 1461) hx hb dL_law_874 (by decide) (fun _ => ?_) (fun q => absurd hv q)
  refine W.widen (k := cells + 3) (n := slots + 18) (by omega) (by omega) ?_
  exact kk A (K, b, n, T) ((nI 0), sm, ln, at_, wl, rm, q, ha, Rw) ou H locs ls ⟨hP, hD, hS, hI, hl⟩
-- hdX5_walked stands above
theorem hdX6_walked : yX6_walked.cls = RX6 ∧ yX6_walked.cls ≠ "java/lang/invoke/MethodHandle" ∧ yX6_walked.cls ≠ "java/lang/invoke/VarHandle" ∧ (parseMethodDescriptor yX6_walked.desc).map (fun d => d.parameters.length) = some 0 := by decide +kernel
set_option maxHeartbeats 4000000 in
set_option maxRecDepth 100000 in
theorem LC_walked (C : LC0 p l s m args c b0 L xs dC dI cI cV cW cL wa sw ad aK aV sa) (hi : i + 3 < L) (hcl : cells + 3 ≤ 601024) (hsl : slots + 18 ≤ 7293034) (h : LST s dC dI cI cV cW cL a A X M ou H locs b0 i ls) (kk : ∀ (A : Nat → Nat → Nat) (X : XS) (M : MS) (ou : Nat → Int64) (H : Heap) (locs : List Loc) (ls : Array Slot), LST s dC dI cI cV cW cL a A X M ou H locs b0 i ls → W p l e room_1 s m args below meth c H locs (cells + 3) (slots + 18) Q (F0 m 1461 ls [])) : W p l e room_1 s m args below meth c H locs cells slots Q (F0 m 879 ls []) := by
  obtain ⟨hx, hb, hml, hown, hts, hX, hbl, hL, hK, hIm, hNw, hXm, hC3, hlt⟩ := C
  obtain ⟨hP, hD, hS, hI, hl⟩ := h
  obtain ⟨K, b, n, T⟩ := X
  obtain ⟨th, sm, ln, at_, wl, rm, q, ha, Rw⟩ := M
  have hV : RV (Rw 0) (K 6).1 (K 6).2.1 (K 6).2.2.1 ((K 6).2.2.2 0) ((K 6).2.2.2 1) ((K 6).2.2.2 2) ((K 6).2.2.2 3) ((K 6).2.2.2 4) ((K 6).2.2.2 5) ((K 6).2.2.2 6) ((K 6).2.2.2 7) := hI.1
  have hn6 : n ≤ 6 := hI.2.1
  have hsm : sm = n := hI.2.2.1
  have hsm6 : sm ≤ 6 := by omega
  have hSR : SR (Rw 2) K n := hI.2.2.2.1
  have hnn : T.1 ≤ 60 := hI.2.2.2.2.1
  have hln : ln = T.1 := hI.2.2.2.2.2.1
  have hln6 : ln ≤ 60 := by omega
  have hBu : Rw 3 = T.2.2.2.1 := hI.2.2.2.2.2.2
  have hA : ∀ q : Nat, s.heap.size ≤ q → Fr s q := fun _ h => h
  have hbA : ¬ Fr s b0 := Nat.not_le.mpr hbl
  refine lv_aload_n hx hb dL_law_879 rfl (lv_at hl 3 rfl) ?_
  have hFc := freeW hD hS hA
  refine va_calli (va_runV (As := []) (rest := []) ⟨hx, hb, hml, hown, hts⟩ (aX5_walked l dC dI cI cV cW cL wa sw ad aK aV sa H.size a A K b n T (th, sm, ln, at_, wl, rm, q, ha, Rw) ou ) (cwV 0 hts (gF2 gL_law_X5_walked (by decide +kernel)) rfl rfl rfl hdX5_walked ⟨Nat.le_of_ble_eq_true rfl, Nat.le_of_ble_eq_true rfl⟩) (pL_V (A := Fr s) hK (imW hIm hS hFc) hNw (hXm.at hS hFc) hC3 hP hD 0 3 rfl rfl rfl) rfl rfl hl.1 rfl (lv_room (Nat.le_of_ble_eq_true rfl)) dL_law_880 ⟨Nat.le_trans (by omega) hcl, Nat.le_trans (by omega) hsl⟩) hS (fun q _ h => hFc q h) hFc (fun r_1 u_ t_ H1 locs ht_ hvm_ hw1 hB_ hz_ hk_ hS => ?_)
  obtain ⟨hP1, hD1⟩ := hB_
  rw [ht_] at hP1
  have hP := hP1
  have hD := hD1.weaken (fun _ q _ h => hFc q.1 h)
  clear hP1 hD1 hFc hk_ hz_ hvm_ ht_ u_
  generalize H1 = H at hP hS ⊢
  refine lv_aload_n hx hb dL_law_883 rfl (lv_at hl 2 rfl) ?_
  have hFc := freeW hD hS hA
  refine va_calli (va_runV (As := []) (rest := [.int r_1]) ⟨hx, hb, hml, hown, hts⟩ (aX6_walked l dC dI cI cV cW cL wa sw ad aK aV sa H.size a A (K, b, n, T) th sm ln at_ wl rm q ha Rw ou  ) (cwV 0 hts (gF2 gL_law_X6_walked (by decide +kernel)) rfl rfl rfl hdX6_walked ⟨Nat.le_of_ble_eq_true rfl, Nat.le_of_ble_eq_true rfl⟩) (pL_V (A := Fr s) hK (imW hIm hS hFc) hNw (hXm.at hS hFc) hC3 hP hD 80 4 rfl rfl rfl) rfl rfl hl.1 rfl (lv_room (Nat.le_of_ble_eq_true rfl)) dL_law_884 ⟨Nat.le_trans (by omega) hcl, Nat.le_trans (by omega) hsl⟩) hS (fun q _ h => hFc q h) hFc (fun r_2 u2_ t_ H1 locs ht_ hvm_ hw2 hB_ hz_ hk_ hS => ?_)
  obtain ⟨hP1, hD1⟩ := hB_
  rw [ht_] at hP1
  have hP := hP1
  have hD := hD1.weaken (fun _ q _ h => hFc q.1 h)
  clear hP1 hD1 hFc hk_ hz_ hvm_ ht_ u2_
  generalize H1 = H at hP hS ⊢
  have hv : r_1 = r_2 := hw1.trans (hV.s1.symm.trans hw2.symm)
  refine lv_icmp_eq (tgt := 1461) hx hb dL_law_887 (by decide) (fun _ => ?_) (fun q => absurd hv q)
  refine W.widen (k := cells + 3) (n := slots + 18) (by omega) (by omega) ?_
  exact kk A (K, b, n, T) ((nI 0), sm, ln, at_, wl, rm, q, ha, Rw) ou H locs ls ⟨hP, hD, hS, hI, hl⟩
theorem hdL_night : yL_night.cls ≠ "java/lang/invoke/MethodHandle" ∧ yL_night.cls ≠ "java/lang/invoke/VarHandle" ∧ (parseMethodDescriptor yL_night.desc).map (fun d => d.parameters.length) = some 3 := by decide +kernel
theorem hdX6_night : yX6_night.cls = RX6 ∧ yX6_night.cls ≠ "java/lang/invoke/MethodHandle" ∧ yX6_night.cls ≠ "java/lang/invoke/VarHandle" ∧ (parseMethodDescriptor yX6_night.desc).map (fun d => d.parameters.length) = some 1 := by decide +kernel
set_option maxHeartbeats 4000000 in
set_option maxRecDepth 100000 in
theorem LC_night (C : LC0 p l s m args c b0 L xs dC dI cI cV cW cL wa sw ad aK aV sa) (hi : i + 3 < L) (hcl : cells + 3 ≤ 601024) (hsl : slots + 18 ≤ 7293034) (h : LST s dC dI cI cV cW cL a A X M ou H locs b0 i ls) (kk : ∀ (A : Nat → Nat → Nat) (X : XS) (M : MS) (ou : Nat → Int64) (H : Heap) (locs : List Loc) (ls : Array Slot), LST s dC dI cI cV cW cL a A X M ou H locs b0 i ls → W p l e room_1 s m args below meth c H locs (cells + 3) (slots + 18) Q (F0 m 1461 ls [])) : W p l e room_1 s m args below meth c H locs cells slots Q (F0 m 892 ls []) := by
  obtain ⟨hx, hb, hml, hown, hts, hX, hbl, hL, hK, hIm, hNw, hXm, hC3, hlt⟩ := C
  obtain ⟨hP, hD, hS, hI, hl⟩ := h
  obtain ⟨K, b, n, T⟩ := X
  obtain ⟨th, sm, ln, at_, wl, rm, q, ha, Rw⟩ := M
  have hV : RV (Rw 0) (K 6).1 (K 6).2.1 (K 6).2.2.1 ((K 6).2.2.2 0) ((K 6).2.2.2 1) ((K 6).2.2.2 2) ((K 6).2.2.2 3) ((K 6).2.2.2 4) ((K 6).2.2.2 5) ((K 6).2.2.2 6) ((K 6).2.2.2 7) := hI.1
  have hn6 : n ≤ 6 := hI.2.1
  have hsm : sm = n := hI.2.2.1
  have hsm6 : sm ≤ 6 := by omega
  have hSR : SR (Rw 2) K n := hI.2.2.2.1
  have hnn : T.1 ≤ 60 := hI.2.2.2.2.1
  have hln : ln = T.1 := hI.2.2.2.2.2.1
  have hln6 : ln ≤ 60 := by omega
  have hBu : Rw 3 = T.2.2.2.1 := hI.2.2.2.2.2.2
  have hA : ∀ q : Nat, s.heap.size ≤ q → Fr s q := fun _ h => h
  have hbA : ¬ Fr s b0 := Nat.not_le.mpr hbl
  refine lv_aload_n hx hb dL_law_892 rfl (lv_at hl 3 rfl) ?_
  refine n_arg (L := L) (i := i) (k := 1) hx hb hX hbl hbA hS (by omega) hL dL_law_893 dL_law_894 dL_law_896 dL_law_897 dL_law_898 (by decide) (lv_at hl 4 rfl) (lv_at hl 0 rfl) ?_
  refine lv_aload_n hx hb dL_law_899 rfl (lv_at hl 1 rfl) ?_
  have hFc := freeW hD hS hA
  refine va_calli (vx_runSW (hh := [(0, 9, 12, 15)]) (As := [.ref (a 0), .int (xs (i + 1)), .ref (a 14)]) (rest := []) ⟨hx, hb, hml, hown, hts⟩ (hL_night l dC dI cI cV cW cL wa sw ad aK aV sa H.size a A hlt K b n T (th, sm, ln, at_, wl, rm, q, ha, Rw) ou (xs (i + 1)) hV.vo hn6) (vx_cwSW 3 hts (gF2 gL_law_L_night (by decide +kernel)) rfl rfl rfl hdL_night ⟨Nat.le_of_ble_eq_true rfl, Nat.le_of_ble_eq_true rfl⟩) (pL_S (A := Fr s) hK (imW hIm hS hFc) hNw (hXm.at hS hFc) hC3 hP hD) rfl rfl hl.1 rfl (lv_room (Nat.le_of_ble_eq_true rfl)) dL_law_900 ⟨Nat.le_trans (by omega) hcl, Nat.le_trans (by omega) hsl⟩) hS (fun q _ h => hFc q h) hFc (fun r_1 u_ t_ H1 locs ht_ hvm_ hw1 hB_ hz_ hk_ hS => ?_)
  obtain ⟨hP1, hD1⟩ := hB_
  rw [ht_] at hP1
  have pl := PL_night hI hw1
  have hP := hP1
  have hD := hD1.weaken (fun _ q _ h => hFc q.1 h)
  clear hP1 hD1 hFc hk_ hz_ hvm_ ht_ hw1
  generalize H1 = H at hP hS ⊢
  obtain ⟨A1, X1, ou1⟩ := u_
  refine lv_istore (lv' := [(5, .int r_1), (4, .int (nI i)), (3, .ref (a 14)), (2, .ref (a 8)), (1, .ref (a 0)), (0, .ref b0)]) hx hb dL_law_903 hl (by decide) rfl (fun ls hl => ?_)
  refine lv_aload_n hx hb dL_law_905 rfl (lv_at hl 3 rfl) ?_
  refine n_arg (L := L) (i := i) (k := 1) hx hb hX hbl hbA hS (by omega) hL dL_law_906 dL_law_907 dL_law_909 dL_law_910 dL_law_911 (by decide) (lv_at hl 5 rfl) (lv_at hl 1 rfl) ?_
  have hFc := freeW hD hS hA
  refine va_calli (va_runV (As := [.int (xs (i + 1))]) (rest := []) ⟨hx, hb, hml, hown, hts⟩ (aX6_night l dC dI cI cV cW cL wa sw ad aK aV sa H.size a A1 X1 th sm ln at_ wl rm q ha Rw ou1 (K 6).1 (xs (i + 1)) hV.ro hsm6) (cwV 1 hts (gF2 gL_law_X6_night (by decide +kernel)) rfl rfl rfl hdX6_night ⟨Nat.le_of_ble_eq_true rfl, Nat.le_of_ble_eq_true rfl⟩) (pL_V (A := Fr s) hK (imW hIm hS hFc) hNw (hXm.at hS hFc) hC3 hP hD 80 4 rfl rfl rfl) rfl rfl hl.1 rfl (lv_room (Nat.le_of_ble_eq_true rfl)) dL_law_912 ⟨Nat.le_trans (by omega) hcl, Nat.le_trans (by omega) hsl⟩) hS (fun q _ h => hFc q h) hFc (fun r_2 u2_ t_ H1 locs ht_ hvm_ hw2 hB_ hz_ hk_ hS => ?_)
  obtain ⟨hP1, hD1⟩ := hB_
  rw [ht_] at hP1
  have hP := hP1
  have hD := hD1.weaken (fun _ q _ h => hFc q.1 h)
  clear hP1 hD1 hFc hk_ hz_ hvm_ ht_ u2_
  generalize H1 = H at hP hS ⊢
  refine lv_istore (lv' := [(6, .int r_2), (5, .int r_1), (4, .int (nI i)), (3, .ref (a 14)), (2, .ref (a 8)), (1, .ref (a 0)), (0, .ref b0)]) hx hb dL_law_915 hl (by decide) rfl (fun ls hl => ?_)
  refine lv_aload_n hx hb dL_law_917 rfl (lv_at hl 4 rfl) ?_
  have hFc := freeW hD hS hA
  refine va_calli (va_runV (As := []) (rest := []) ⟨hx, hb, hml, hown, hts⟩ (aX6_thrown l dC dI cI cV cW cL wa sw ad aK aV sa H.size a A1 X1 ((nI (if sIn (xs (i + 1)) 1 20 = true then 0 else 1))) (if sIn (xs (i + 1)) 1 20 = true then svN sm else sm) (ln) (at_) (wl) (rm) (((if sIn (xs (i + 1)) 1 20 = true then ((fWk (Rw 0) (K 6).1 (ix (xs (i + 1))) q).2.2).1 else q.1), (if sIn (xs (i + 1)) 1 20 = true then ((fWk (Rw 0) (K 6).1 (ix (xs (i + 1))) q).2.2).2.1 else q.2.1), (if sIn (xs (i + 1)) 1 20 = true then ((fWk (Rw 0) (K 6).1 (ix (xs (i + 1))) q).2.2).2.2.1 else q.2.2.1), if sIn (xs (i + 1)) 1 20 = true then ((fWk (Rw 0) (K 6).1 (ix (xs (i + 1))) q).2.2).2.2.2 else q.2.2.2)) (ha) (mk5 (if sIn (xs (i + 1)) 1 20 = true then fWkS (Rw 0) (K 6).1 (ix (xs (i + 1))) q else (Rw 0)) (Rw 1) (if sIn (xs (i + 1)) 1 20 = true then svV (Rw 0) (Rw 2) sm else (Rw 2)) (Rw 3) (Rw 4)) ou1) (cwV 0 hts (gF2 gL_law_X6_thrown (by decide +kernel)) rfl rfl rfl hdX6_thrown ⟨Nat.le_of_ble_eq_true rfl, Nat.le_of_ble_eq_true rfl⟩) (pL_V (A := Fr s) hK (imW hIm hS hFc) hNw (hXm.at hS hFc) hC3 hP hD 80 4 rfl rfl rfl) rfl rfl hl.1 rfl (lv_room (Nat.le_of_ble_eq_true rfl)) dL_law_918 ⟨Nat.le_trans (by omega) hcl, Nat.le_trans (by omega) hsl⟩) hS (fun q _ h => hFc q h) hFc (fun r_3 u3_ t_ H1 locs ht_ hvm_ hw3 hB_ hz_ hk_ hS => ?_)
  obtain ⟨hP1, hD1⟩ := hB_
  rw [ht_] at hP1
  have hP := hP1
  have hD := hD1.weaken (fun _ q _ h => hFc q.1 h)
  clear hP1 hD1 hFc hk_ hz_ hvm_ ht_ u3_
  generalize H1 = H at hP hS ⊢
  have fin : W p l e room_1 s m args below meth c H locs (cells + 1 + 0 + 0) (slots + 6 + 0 + 0) Q (F0 m 945 ls []) := by
    refine lv_goto (tgt := 1461) hx hb dL_law_945 (by decide) ?_
    refine W.widen (k := cells + 3) (n := slots + 18) (by omega) (by omega) ?_
    exact kk A1 X1 _ ou1 H locs ls ⟨hP, hD, hS, pl.2.2, lv_sub hl [2, 3, 4, 5, 6] rfl⟩
  refine lv_iload hx hb dL_law_921 (lv_at hl 1 rfl) ?_
  refine lv_icmp_eq (tgt := 928) hx hb dL_law_923 (by decide) (fun _ => ?_) (fun c9 => absurd (hw3.trans pl.1.symm) c9)
  refine lv_iload hx hb dL_law_928 (lv_at hl 1 rfl) ?_
  refine lv_if_ne (tgt := 945) hx hb dL_law_930 (by decide) (fun _ => fin) (fun c9 => ?_)
  refine lv_aload_n hx hb dL_law_933 rfl (lv_at hl 3 rfl) ?_
  refine lv_iconst (v := (nI 0)) hx hb dL_law_934 (by decide) ?_
  refine va_lald hx hb hK hP 86 3 rfl rfl (vp_in_nI (by decide) (by decide)) dL_law_935 ?_
  refine lv_iload hx hb dL_law_936 (lv_at hl 0 rfl) ?_
  refine lv_i2l (v := r_2.toInt64) hx hb dL_law_938 rfl ?_
  exact n_lcmp hx hb (by rw [nI_clamp (by decide), hw2]; exact pl.2.1 (c9.trans nI_0.symm)) dL_law_939 dL_law_940 (by decide) fin
end LAWCASES2
