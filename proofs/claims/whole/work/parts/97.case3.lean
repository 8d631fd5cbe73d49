section LAWCASES3
variable {p : Program} {l : Launch} {e : Env} {s : State} {m : MethodId} {args : Array Value} {below : List Frame} {meth : Method} {c : Code} {H : Heap} {locs : List Loc} {cells slots : Nat} {Q : State → Prop} {ls : Array Slot}
variable {dC : Nat → ClassId} {dI : Nat → Nat → Nat} {cI cV cW cL : ClassId} {wa sw : Nat} {ad aK aV : Nat → Nat} {sa : Nat → Nat} {a : Nat → Nat} {A : Nat → Nat → Nat} {b0 L i : Nat} {xs : Nat → Int32} {X : XS} {M : MS} {ou : Nat → Int64}
-- hdX5_cost stands above
theorem hdX6_cost : yX6_cost.cls = RX6 ∧ yX6_cost.cls ≠ "java/lang/invoke/MethodHandle" ∧ yX6_cost.cls ≠ "java/lang/invoke/VarHandle" ∧ (parseMethodDescriptor yX6_cost.desc).map (fun d => d.parameters.length) = some 0 := by decide +kernel
set_option maxHeartbeats 4000000 in
set_option maxRecDepth 100000 in
theorem LC_cost (C : LC0 p l s m args c b0 L xs dC dI cI cV cW cL wa sw ad aK aV sa) (hi : i + 3 < L) (hcl : cells + 3 ≤ 601024) (hsl : slots + 18 ≤ 7293034) (h : LST s dC dI cI cV cW cL a A X M ou H locs b0 i ls) (kk : ∀ (A : Nat → Nat → Nat) (X : XS) (M : MS) (ou : Nat → Int64) (H : Heap) (locs : List Loc) (ls : Array Slot), LST s dC dI cI cV cW cL a A X M ou H locs b0 i ls → W p l e room_1 s m args below meth c H locs (cells + 3) (slots + 18) Q (F0 m 1461 ls [])) : W p l e room_1 s m args below meth c H locs cells slots Q (F0 m 948 ls []) := by
  obtain ⟨hx, hb, hml, hown, hts, hX, hbl, hL, hK, hIm, hNw, hXm, hC3, hlt⟩ := C
  obtain ⟨hP, hD, hS, hI, hl⟩ := h
  obtain ⟨K, b, n, T⟩ := X
  obtain ⟨th, sm, ln, at_, wl, rm, q, ha, Rw⟩ := M
  have hV : RV (Rw 0) (K 6).1 (K 6).2.1 (K 6).2.2.1 ((K 6).2.2.2 0) ((K 6).2.2.2 1) ((K 6).2.2.2 2) ((K 6).2.2.2 3) ((K 6).2.2.2 4) ((K 6).2.2.2 5) ((K 6).2.2.2 6) ((K 6).2.2.2 7) := hI.1
  have hn6 : n ≤ 6 := hI.2.1
  have hsm : sm = n := hI.2.2.1
  have hsm6 : sm ≤ 6 := by omega
  have hSR : SR (Rw 2) K n := hI.2.2.2.1
  have hnn : T.1 ≤ 60 := hI.2.2.2.2.1
  have hln : ln = T.1 := hI.2.2.2.2.2.1
  have hln6 : ln ≤ 60 := by omega
  have hBu : Rw 3 = T.2.2.2.1 := hI.2.2.2.2.2.2
  have hA : ∀ q : Nat, s.heap.size ≤ q → Fr s q := fun _ h => h
  have hbA : ¬ Fr s b0 := Nat.not_le.mpr hbl
  refine lv_aload_n hx hb dL_law_948 rfl (lv_at hl 3 rfl) ?_
  have hFc := freeW hD hS hA
  refine va_calli (va_runV (As := []) (rest := []) ⟨hx, hb, hml, hown, hts⟩ (aX5_cost l dC dI cI cV cW cL wa sw ad aK aV sa H.size a A K b n T (th, sm, ln, at_, wl, rm, q, ha, Rw) ou hV.vo) (cwV 0 hts (gF2 gL_law_X5_cost (by decide +kernel)) rfl rfl rfl hdX5_cost ⟨Nat.le_of_ble_eq_true rfl, Nat.le_of_ble_eq_true rfl⟩) (pL_V (A := Fr s) hK (imW hIm hS hFc) hNw (hXm.at hS hFc) hC3 hP hD 0 3 rfl rfl rfl) rfl rfl hl.1 rfl (lv_room (Nat.le_of_ble_eq_true rfl)) dL_law_949 ⟨Nat.le_trans (by omega) hcl, Nat.le_trans (by omega) hsl⟩) hS (fun q _ h => hFc q h) hFc (fun r_1 u_ t_ H1 locs ht_ hvm_ hw1 hB_ hz_ hk_ hS => ?_)
  obtain ⟨hP1, hD1⟩ := hB_
  rw [ht_] at hP1
  have hP := hP1
  have hD := hD1.weaken (fun _ q _ h => hFc q.1 h)
  clear hP1 hD1 hFc hk_ hz_ hvm_ ht_ u_
  generalize H1 = H at hP hS ⊢
  refine lv_aload_n hx hb dL_law_952 rfl (lv_at hl 2 rfl) ?_
  have hFc := freeW hD hS hA
  refine va_calli (va_runV (As := []) (rest := [.int r_1]) ⟨hx, hb, hml, hown, hts⟩ (aX6_cost l dC dI cI cV cW cL wa sw ad aK aV sa H.size a A (K, b, n, T) th sm ln at_ wl rm q ha Rw ou (K 6).1 hV.ro) (cwV 0 hts (gF2 gL_law_X6_cost (by decide +kernel)) rfl rfl rfl hdX6_cost ⟨Nat.le_of_ble_eq_true rfl, Nat.le_of_ble_eq_true rfl⟩) (pL_V (A := Fr s) hK (imW hIm hS hFc) hNw (hXm.at hS hFc) hC3 hP hD 80 4 rfl rfl rfl) rfl rfl hl.1 rfl (lv_room (Nat.le_of_ble_eq_true rfl)) dL_law_953 ⟨Nat.le_trans (by omega) hcl, Nat.le_trans (by omega) hsl⟩) hS (fun q _ h => hFc q h) hFc (fun r_2 u2_ t_ H1 locs ht_ hvm_ hw2 hB_ hz_ hk_ hS => ?_)
  obtain ⟨hP1, hD1⟩ := hB_
  rw [ht_] at hP1
  have hP := hP1
  have hD := hD1.weaken (fun _ q _ h => hFc q.1 h)
  clear hP1 hD1 hFc hk_ hz_ hvm_ ht_ u2_
  generalize H1 = H at hP hS ⊢
  have hv : r_1 = r_2 := hw1.trans ((hV.cost _ (Nat.le_refl _)).trans hw2.symm)
  refine lv_icmp_eq (tgt := 1461) hx hb dL_law_956 (by decide) (fun _ => ?_) (fun q => absurd hv q)
  refine W.widen (k := cells + 3) (n := slots + 18) (by omega) (by omega) ?_
  exact kk A (K, b, n, T) ((nI 0), sm, ln, at_, wl, rm, q, ha, Rw) ou H locs ls ⟨hP, hD, hS, hI, hl⟩
-- hdX5_steps stands above
theorem hdX6_steps : yX6_steps.cls = RX6 ∧ yX6_steps.cls ≠ "java/lang/invoke/MethodHandle" ∧ yX6_steps.cls ≠ "java/lang/invoke/VarHandle" ∧ (parseMethodDescriptor yX6_steps.desc).map (fun d => d.parameters.length) = some 0 := by decide +kernel
set_option maxHeartbeats 4000000 in
set_option maxRecDepth 100000 in
theorem LC_steps (C : LC0 p l s m args c b0 L xs dC dI cI cV cW cL wa sw ad aK aV sa) (hi : i + 3 < L) (hcl : cells + 3 ≤ 601024) (hsl : slots + 18 ≤ 7293034) (h : LST s dC dI cI cV cW cL a A X M ou H locs b0 i ls) (kk : ∀ (A : Nat → Nat → Nat) (X : XS) (M : MS) (ou : Nat → Int64) (H : Heap) (locs : List Loc) (ls : Array Slot), LST s dC dI cI cV cW cL a A X M ou H locs b0 i ls → W p l e room_1 s m args below meth c H locs (cells + 3) (slots + 18) Q (F0 m 1461 ls [])) : W p l e room_1 s m args below meth c H locs cells slots Q (F0 m 961 ls []) := by
  obtain ⟨hx, hb, hml, hown, hts, hX, hbl, hL, hK, hIm, hNw, hXm, hC3, hlt⟩ := C
  obtain ⟨hP, hD, hS, hI, hl⟩ := h
  obtain ⟨K, b, n, T⟩ := X
  obtain ⟨th, sm, ln, at_, wl, rm, q, ha, Rw⟩ := M
  have hV : RV (Rw 0) (K 6).1 (K 6).2.1 (K 6).2.2.1 ((K 6).2.2.2 0) ((K 6).2.2.2 1) ((K 6).2.2.2 2) ((K 6).2.2.2 3) ((K 6).2.2.2 4) ((K 6).2.2.2 5) ((K 6).2.2.2 6) ((K 6).2.2.2 7) := hI.1
  have hn6 : n ≤ 6 := hI.2.1
  have hsm : sm = n := hI.2.2.1
  have hsm6 : sm ≤ 6 := by omega
  have hSR : SR (Rw 2) K n := hI.2.2.2.1
  have hnn : T.1 ≤ 60 := hI.2.2.2.2.1
  have hln : ln = T.1 := hI.2.2.2.2.2.1
  have hln6 : ln ≤ 60 := by omega
  have hBu : Rw 3 = T.2.2.2.1 := hI.2.2.2.2.2.2
  have hA : ∀ q : Nat, s.heap.size ≤ q → Fr s q := fun _ h => h
  have hbA : ¬ Fr s b0 := Nat.not_le.mpr hbl
  refine lv_aload_n hx hb dL_law_961 rfl (lv_at hl 3 rfl) ?_
  have hFc := freeW hD hS hA
  refine va_calli (va_runV (As := []) (rest := []) ⟨hx, hb, hml, hown, hts⟩ (aX5_steps l dC dI cI cV cW cL wa sw ad aK aV sa H.size a A K b n T (th, sm, ln, at_, wl, rm, q, ha, Rw) ou ) (cwV 0 hts (gF2 gL_law_X5_steps (by decide +kernel)) rfl rfl rfl hdX5_steps ⟨Nat.le_of_ble_eq_true rfl, Nat.le_of_ble_eq_true rfl⟩) (pL_V (A := Fr s) hK (imW hIm hS hFc) hNw (hXm.at hS hFc) hC3 hP hD 0 3 rfl rfl rfl) rfl rfl hl.1 rfl (lv_room (Nat.le_of_ble_eq_true rfl)) dL_law_962 ⟨Nat.le_trans (by omega) hcl, Nat.le_trans (by omega) hsl⟩) hS (fun q _ h => hFc q h) hFc (fun r_1 u_ t_ H1 locs ht_ hvm_ hw1 hB_ hz_ hk_ hS => ?_)
  obtain ⟨hP1, hD1⟩ := hB_
  rw [ht_] at hP1
  have hP := hP1
  have hD := hD1.weaken (fun _ q _ h => hFc q.1 h)
  clear hP1 hD1 hFc hk_ hz_ hvm_ ht_ u_
  generalize H1 = H at hP hS ⊢
  refine lv_aload_n hx hb dL_law_965 rfl (lv_at hl 2 rfl) ?_
  have hFc := freeW hD hS hA
  refine va_calli (va_runV (As := []) (rest := [.int r_1]) ⟨hx, hb, hml, hown, hts⟩ (aX6_steps l dC dI cI cV cW cL wa sw ad aK aV sa H.size a A (K, b, n, T) th sm ln at_ wl rm q ha Rw ou  ) (cwV 0 hts (gF2 gL_law_X6_steps (by decide +kernel)) rfl rfl rfl hdX6_steps ⟨Nat.le_of_ble_eq_true rfl, Nat.le_of_ble_eq_true rfl⟩) (pL_V (A := Fr s) hK (imW hIm hS hFc) hNw (hXm.at hS hFc) hC3 hP hD 80 4 rfl rfl rfl) rfl rfl hl.1 rfl (lv_room (Nat.le_of_ble_eq_true rfl)) dL_law_966 ⟨Nat.le_trans (by omega) hcl, Nat.le_trans (by omega) hsl⟩) hS (fun q _ h => hFc q h) hFc (fun r_2 u2_ t_ H1 locs ht_ hvm_ hw2 hB_ hz_ hk_ hS => ?_)
  obtain ⟨hP1, hD1⟩ := hB_
  rw [ht_] at hP1
  have hP := hP1
  have hD := hD1.weaken (fun _ q _ h => hFc q.1 h)
  clear hP1 hD1 hFc hk_ hz_ hvm_ ht_ u2_
  generalize H1 = H at hP hS ⊢
  have hv : r_1 = r_2 := hw1.trans (hV.s2.symm.trans hw2.symm)
  refine lv_icmp_eq (tgt := 1461) hx hb dL_law_969 (by decide) (fun _ => ?_) (fun q => absurd hv q)
  refine W.widen (k := cells + 3) (n := slots + 18) (by omega) (by omega) ?_
  exact kk A (K, b, n, T) ((nI 0), sm, ln, at_, wl, rm, q, ha, Rw) ou H locs ls ⟨hP, hD, hS, hI, hl⟩
theorem hdL_reason : yL_reason.cls ≠ "java/lang/invoke/MethodHandle" ∧ yL_reason.cls ≠ "java/lang/invoke/VarHandle" ∧ (parseMethodDescriptor yL_reason.desc).map (fun d => d.parameters.length) = some 4 := by decide +kernel
theorem hdX6_reason : yX6_reason.cls = RX6 ∧ yX6_reason.cls ≠ "java/lang/invoke/MethodHandle" ∧ yX6_reason.cls ≠ "java/lang/invoke/VarHandle" ∧ (parseMethodDescriptor yX6_reason.desc).map (fun d => d.parameters.length) = some 2 := by decide +kernel
set_option maxHeartbeats 4000000 in
set_option maxRecDepth 100000 in
theorem LC_reason (C : LC0 p l s m args c b0 L xs dC dI cI cV cW cL wa sw ad aK aV sa) (hi : i + 3 < L) (hcl : cells + 3 ≤ 601024) (hsl : slots + 18 ≤ 7293034) (h : LST s dC dI cI cV cW cL a A X M ou H locs b0 i ls) (kk : ∀ (A : Nat → Nat → Nat) (X : XS) (M : MS) (ou : Nat → Int64) (H : Heap) (locs : List Loc) (ls : Array Slot), LST s dC dI cI cV cW cL a A X M ou H locs b0 i ls → W p l e room_1 s m args below meth c H locs (cells + 3) (slots + 18) Q (F0 m 1461 ls [])) : W p l e room_1 s m args below meth c H locs cells slots Q (F0 m 974 ls []) := by
  obtain ⟨hx, hb, hml, hown, hts, hX, hbl, hL, hK, hIm, hNw, hXm, hC3, hlt⟩ := C
  obtain ⟨hP, hD, hS, hI, hl⟩ := h
  obtain ⟨K, b, n, T⟩ := X
  obtain ⟨th, sm, ln, at_, wl, rm, q, ha, Rw⟩ := M
  have hV : RV (Rw 0) (K 6).1 (K 6).2.1 (K 6).2.2.1 ((K 6).2.2.2 0) ((K 6).2.2.2 1) ((K 6).2.2.2 2) ((K 6).2.2.2 3) ((K 6).2.2.2 4) ((K 6).2.2.2 5) ((K 6).2.2.2 6) ((K 6).2.2.2 7) := hI.1
  have hn6 : n ≤ 6 := hI.2.1
  have hsm : sm = n := hI.2.2.1
  have hsm6 : sm ≤ 6 := by omega
  have hSR : SR (Rw 2) K n := hI.2.2.2.1
  have hnn : T.1 ≤ 60 := hI.2.2.2.2.1
  have hln : ln = T.1 := hI.2.2.2.2.2.1
  have hln6 : ln ≤ 60 := by omega
  have hBu : Rw 3 = T.2.2.2.1 := hI.2.2.2.2.2.2
  have hA : ∀ q : Nat, s.heap.size ≤ q → Fr s q := fun _ h => h
  have hbA : ¬ Fr s b0 := Nat.not_le.mpr hbl
  refine lv_aload_n hx hb dL_law_974 rfl (lv_at hl 3 rfl) ?_
  refine n_arg (L := L) (i := i) (k := 1) hx hb hX hbl hbA hS (by omega) hL dL_law_975 dL_law_976 dL_law_978 dL_law_979 dL_law_980 (by decide) (lv_at hl 4 rfl) (lv_at hl 0 rfl) ?_
  refine n_arg (L := L) (i := i) (k := 2) hx hb hX hbl hbA hS (by omega) hL dL_law_981 dL_law_982 dL_law_984 dL_law_985 dL_law_986 (by decide) (lv_at hl 4 rfl) (lv_at hl 0 rfl) ?_
  refine lv_aload_n hx hb dL_law_987 rfl (lv_at hl 1 rfl) ?_
  have hFc := freeW hD hS hA
  refine va_calli (vx_runSW (hh := [(0, 10, 13, 13)]) (As := [.ref (a 0), .int (xs (i + 1)), .int (xs (i + 2)), .ref (a 14)]) (rest := []) ⟨hx, hb, hml, hown, hts⟩ (hL_reason l dC dI cI cV cW cL wa sw ad aK aV sa H.size a A hlt K b n T (th, sm, ln, at_, wl, rm, q, ha, Rw) ou (xs (i + 1)) (xs (i + 2)) hV.vo) (vx_cwSW 4 hts (gF2 gL_law_L_reason (by decide +kernel)) rfl rfl rfl hdL_reason ⟨Nat.le_of_ble_eq_true rfl, Nat.le_of_ble_eq_true rfl⟩) (pL_S (A := Fr s) hK (imW hIm hS hFc) hNw (hXm.at hS hFc) hC3 hP hD) rfl rfl hl.1 rfl (lv_room (Nat.le_of_ble_eq_true rfl)) dL_law_988 ⟨Nat.le_trans (by omega) hcl, Nat.le_trans (by omega) hsl⟩) hS (fun q _ h => hFc q h) hFc (fun r_1 u_ t_ H1 locs ht_ hvm_ hw1 hB_ hz_ hk_ hS => ?_)
  obtain ⟨hP1, hD1⟩ := hB_
  rw [ht_] at hP1
  have pl := PL_reason hI hw1
  have hP := hP1
  have hD := hD1.weaken (fun _ q _ h => hFc q.1 h)
  clear hP1 hD1 hFc hk_ hz_ hvm_ ht_ hw1
  generalize H1 = H at hP hS ⊢
  obtain ⟨A1, X1, ou1⟩ := u_
  refine lv_istore (lv' := [(5, .int r_1), (4, .int (nI i)), (3, .ref (a 14)), (2, .ref (a 8)), (1, .ref (a 0)), (0, .ref b0)]) hx hb dL_law_991 hl (by decide) rfl (fun ls hl => ?_)
  refine lv_aload_n hx hb dL_law_993 rfl (lv_at hl 3 rfl) ?_
  refine n_arg (L := L) (i := i) (k := 1) hx hb hX hbl hbA hS (by omega) hL dL_law_994 dL_law_995 dL_law_997 dL_law_998 dL_law_999 (by decide) (lv_at hl 5 rfl) (lv_at hl 1 rfl) ?_
  refine n_arg (L := L) (i := i) (k := 2) hx hb hX hbl hbA hS (by omega) hL dL_law_1000 dL_law_1001 dL_law_1003 dL_law_1004 dL_law_1005 (by decide) (lv_at hl 5 rfl) (lv_at hl 1 rfl) ?_
  have hFc := freeW hD hS hA
  refine va_calli (va_runV (As := [.int (xs (i + 1)), .int (xs (i + 2))]) (rest := []) ⟨hx, hb, hml, hown, hts⟩ (aX6_reason l dC dI cI cV cW cL wa sw ad aK aV sa H.size a A1 X1 th sm ln at_ wl rm q ha Rw ou1 (K 6).1 (xs (i + 1)) (xs (i + 2)) hV.ro) (cwV 2 hts (gF2 gL_law_X6_reason (by decide +kernel)) rfl rfl rfl hdX6_reason ⟨Nat.le_of_ble_eq_true rfl, Nat.le_of_ble_eq_true rfl⟩) (pL_V (A := Fr s) hK (imW hIm hS hFc) hNw (hXm.at hS hFc) hC3 hP hD 80 4 rfl rfl rfl) rfl rfl hl.1 rfl (lv_room (Nat.le_of_ble_eq_true rfl)) dL_law_1006 ⟨Nat.le_trans (by omega) hcl, Nat.le_trans (by omega) hsl⟩) hS (fun q _ h => hFc q h) hFc (fun r_2 u2_ t_ H1 locs ht_ hvm_ hw2 hB_ hz_ hk_ hS => ?_)
  obtain ⟨hP1, hD1⟩ := hB_
  rw [ht_] at hP1
  have hP := hP1
  have hD := hD1.weaken (fun _ q _ h => hFc q.1 h)
  clear hP1 hD1 hFc hk_ hz_ hvm_ ht_ u2_
  generalize H1 = H at hP hS ⊢
  refine lv_istore (lv' := [(6, .int r_2), (5, .int r_1), (4, .int (nI i)), (3, .ref (a 14)), (2, .ref (a 8)), (1, .ref (a 0)), (0, .ref b0)]) hx hb dL_law_1009 hl (by decide) rfl (fun ls hl => ?_)
  refine lv_aload_n hx hb dL_law_1011 rfl (lv_at hl 4 rfl) ?_
  have hFc := freeW hD hS hA
  refine va_calli (va_runV (As := []) (rest := []) ⟨hx, hb, hml, hown, hts⟩ (aX6_thrown l dC dI cI cV cW cL wa sw ad aK aV sa H.size a A1 X1 ((nI (if sIn (xs (i + 1)) 0 ((Rw 0) 0 - 1) = true ∧ sIn (xs (i + 2)) 0 5 = true then 0 else 1))) (sm) (ln) (at_) (wl) (rm) (q) (ha) (Rw) ou1) (cwV 0 hts (gF2 gL_law_X6_thrown (by decide +kernel)) rfl rfl rfl hdX6_thrown ⟨Nat.le_of_ble_eq_true rfl, Nat.le_of_ble_eq_true rfl⟩) (pL_V (A := Fr s) hK (imW hIm hS hFc) hNw (hXm.at hS hFc) hC3 hP hD 80 4 rfl rfl rfl) rfl rfl hl.1 rfl (lv_room (Nat.le_of_ble_eq_true rfl)) dL_law_1012 ⟨Nat.le_trans (by omega) hcl, Nat.le_trans (by omega) hsl⟩) hS (fun q _ h => hFc q h) hFc (fun r_3 u3_ t_ H1 locs ht_ hvm_ hw3 hB_ hz_ hk_ hS => ?_)
  obtain ⟨hP1, hD1⟩ := hB_
  rw [ht_] at hP1
  have hP := hP1
  have hD := hD1.weaken (fun _ q _ h => hFc q.1 h)
  clear hP1 hD1 hFc hk_ hz_ hvm_ ht_ u3_
  generalize H1 = H at hP hS ⊢
  have fin : W p l e room_1 s m args below meth c H locs (cells + 2 + 0 + 0) (slots + 12 + 0 + 0) Q (F0 m 1039 ls []) := by
    refine lv_goto (tgt := 1461) hx hb dL_law_1039 (by decide) ?_
    refine W.widen (k := cells + 3) (n := slots + 18) (by omega) (by omega) ?_
    exact kk A1 X1 _ ou1 H locs ls ⟨hP, hD, hS, pl.2.2, lv_sub hl [2, 3, 4, 5, 6] rfl⟩
  refine lv_iload hx hb dL_law_1015 (lv_at hl 1 rfl) ?_
  refine lv_icmp_eq (tgt := 1022) hx hb dL_law_1017 (by decide) (fun _ => ?_) (fun c9 => absurd (hw3.trans pl.1.symm) c9)
  refine lv_iload hx hb dL_law_1022 (lv_at hl 1 rfl) ?_
  refine lv_if_ne (tgt := 1039) hx hb dL_law_1024 (by decide) (fun _ => fin) (fun c9 => ?_)
  refine lv_aload_n hx hb dL_law_1027 rfl (lv_at hl 3 rfl) ?_
  refine lv_iconst (v := (nI 0)) hx hb dL_law_1028 (by decide) ?_
  refine va_lald hx hb hK hP 86 3 rfl rfl (vp_in_nI (by decide) (by decide)) dL_law_1029 ?_
  refine lv_iload hx hb dL_law_1030 (lv_at hl 0 rfl) ?_
  refine lv_i2l (v := r_2.toInt64) hx hb dL_law_1032 rfl ?_
  exact n_lcmp hx hb (by rw [nI_clamp (by decide), hw2]; exact pl.2.1 (c9.trans nI_0.symm)) dL_law_1033 dL_law_1034 (by decide) fin
-- hdX5_bestGain stands above
theorem hdX6_bestGain : yX6_bestGain.cls = RX6 ∧ yX6_bestGain.cls ≠ "java/lang/invoke/MethodHandle" ∧ yX6_bestGain.cls ≠ "java/lang/invoke/VarHandle" ∧ (parseMethodDescriptor yX6_bestGain.desc).map (fun d => d.parameters.length) = some 0 := by decide +kernel
set_option maxHeartbeats 4000000 in
set_option maxRecDepth 100000 in
theorem LC_bestGain (C : LC0 p l s m args c b0 L xs dC dI cI cV cW cL wa sw ad aK aV sa) (hi : i + 3 < L) (hcl : cells + 3 ≤ 601024) (hsl : slots + 18 ≤ 7293034) (h : LST s dC dI cI cV cW cL a A X M ou H locs b0 i ls) (kk : ∀ (A : Nat → Nat → Nat) (X : XS) (M : MS) (ou : Nat → Int64) (H : Heap) (locs : List Loc) (ls : Array Slot), LST s dC dI cI cV cW cL a A X M ou H locs b0 i ls → W p l e room_1 s m args below meth c H locs (cells + 3) (slots + 18) Q (F0 m 1461 ls [])) : W p l e room_1 s m args below meth c H locs cells slots Q (F0 m 1042 ls []) := by
  obtain ⟨hx, hb, hml, hown, hts, hX, hbl, hL, hK, hIm, hNw, hXm, hC3, hlt⟩ := C
  obtain ⟨hP, hD, hS, hI, hl⟩ := h
  obtain ⟨K, b, n, T⟩ := X
  obtain ⟨th, sm, ln, at_, wl, rm, q, ha, Rw⟩ := M
  have hV : RV (Rw 0) (K 6).1 (K 6).2.1 (K 6).2.2.1 ((K 6).2.2.2 0) ((K 6).2.2.2 1) ((K 6).2.2.2 2) ((K 6).2.2.2 3) ((K 6).2.2.2 4) ((K 6).2.2.2 5) ((K 6).2.2.2 6) ((K 6).2.2.2 7) := hI.1
  have hn6 : n ≤ 6 := hI.2.1
  have hsm : sm = n := hI.2.2.1
  have hsm6 : sm ≤ 6 := by omega
  have hSR : SR (Rw 2) K n := hI.2.2.2.1
  have hnn : T.1 ≤ 60 := hI.2.2.2.2.1
  have hln : ln = T.1 := hI.2.2.2.2.2.1
  have hln6 : ln ≤ 60 := by omega
  have hBu : Rw 3 = T.2.2.2.1 := hI.2.2.2.2.2.2
  have hA : ∀ q : Nat, s.heap.size ≤ q → Fr s q := fun _ h => h
  have hbA : ¬ Fr s b0 := Nat.not_le.mpr hbl
  refine lv_aload_n hx hb dL_law_1042 rfl (lv_at hl 3 rfl) ?_
  have hFc := freeW hD hS hA
  refine va_calli (va_runV (As := []) (rest := []) ⟨hx, hb, hml, hown, hts⟩ (aX5_bestGain l dC dI cI cV cW cL wa sw ad aK aV sa H.size a A K b n T (th, sm, ln, at_, wl, rm, q, ha, Rw) ou hV.vo) (cwV 0 hts (gF2 gL_law_X5_bestGain (by decide +kernel)) rfl rfl rfl hdX5_bestGain ⟨Nat.le_of_ble_eq_true rfl, Nat.le_of_ble_eq_true rfl⟩) (pL_V (A := Fr s) hK (imW hIm hS hFc) hNw (hXm.at hS hFc) hC3 hP hD 0 3 rfl rfl rfl) rfl rfl hl.1 rfl (lv_room (Nat.le_of_ble_eq_true rfl)) dL_law_1043 ⟨Nat.le_trans (by omega) hcl, Nat.le_trans (by omega) hsl⟩) hS (fun q _ h => hFc q h) hFc (fun r_1 u_ t_ H1 locs ht_ hvm_ hw1 hB_ hz_ hk_ hS => ?_)
  obtain ⟨hP1, hD1⟩ := hB_
  rw [ht_] at hP1
  have hP := hP1
  have hD := hD1.weaken (fun _ q _ h => hFc q.1 h)
  clear hP1 hD1 hFc hk_ hz_ hvm_ ht_ u_
  generalize H1 = H at hP hS ⊢
  refine lv_aload_n hx hb dL_law_1046 rfl (lv_at hl 2 rfl) ?_
  have hFc := freeW hD hS hA
  refine va_calli (va_runV (As := []) (rest := [.int r_1]) ⟨hx, hb, hml, hown, hts⟩ (aX6_bestGain l dC dI cI cV cW cL wa sw ad aK aV sa H.size a A (K, (((cF ((K 6).2.2.2 6) ((K 6).2.2.2 7) ((K 6).2.2.2 1) ((K 6).2.2.2 4) ((K 6).2.2.2 5) ((K 6).2.2.2 3) ((K 6).2.2.2 0) ((K 6).2.2.2 2) ((K 6).1) b).1), ((cF ((K 6).2.2.2 6) ((K 6).2.2.2 7) ((K 6).2.2.2 1) ((K 6).2.2.2 4) ((K 6).2.2.2 5) ((K 6).2.2.2 3) ((K 6).2.2.2 0) ((K 6).2.2.2 2) ((K 6).1) b).2.1), ((cF ((K 6).2.2.2 6) ((K 6).2.2.2 7) ((K 6).2.2.2 1) ((K 6).2.2.2 4) ((K 6).2.2.2 5) ((K 6).2.2.2 3) ((K 6).2.2.2 0) ((K 6).2.2.2 2) ((K 6).1) b).2.2.1), ((cF ((K 6).2.2.2 6) ((K 6).2.2.2 7) ((K 6).2.2.2 1) ((K 6).2.2.2 4) ((K 6).2.2.2 5) ((K 6).2.2.2 3) ((K 6).2.2.2 0) ((K 6).2.2.2 2) ((K 6).1) b).2.2.2)), n, T) th sm ln at_ wl rm q ha Rw ou (K 6).1 hV.ro) (cwV 0 hts (gF2 gL_law_X6_bestGain (by decide +kernel)) rfl rfl rfl hdX6_bestGain ⟨Nat.le_of_ble_eq_true rfl, Nat.le_of_ble_eq_true rfl⟩) (pL_V (A := Fr s) hK (imW hIm hS hFc) hNw (hXm.at hS hFc) hC3 hP hD 80 4 rfl rfl rfl) rfl rfl hl.1 rfl (lv_room (Nat.le_of_ble_eq_true rfl)) dL_law_1047 ⟨Nat.le_trans (by omega) hcl, Nat.le_trans (by omega) hsl⟩) hS (fun q _ h => hFc q h) hFc (fun r_2 u2_ t_ H1 locs ht_ hvm_ hw2 hB_ hz_ hk_ hS => ?_)
  obtain ⟨hP1, hD1⟩ := hB_
  rw [ht_] at hP1
  have hP := hP1
  have hD := hD1.weaken (fun _ q _ h => hFc q.1 h)
  clear hP1 hD1 hFc hk_ hz_ hvm_ ht_ u2_
  generalize H1 = H at hP hS ⊢
  have hv : r_1 = r_2 := hw1.trans ((hV.f b q).1.trans hw2.symm)
  refine lv_icmp_eq (tgt := 1461) hx hb dL_law_1050 (by decide) (fun _ => ?_) (fun q => absurd hv q)
  refine W.widen (k := cells + 3) (n := slots + 18) (by omega) (by omega) ?_
  exact kk A (K, (((cF ((K 6).2.2.2 6) ((K 6).2.2.2 7) ((K 6).2.2.2 1) ((K 6).2.2.2 4) ((K 6).2.2.2 5) ((K 6).2.2.2 3) ((K 6).2.2.2 0) ((K 6).2.2.2 2) ((K 6).1) b).1), ((cF ((K 6).2.2.2 6) ((K 6).2.2.2 7) ((K 6).2.2.2 1) ((K 6).2.2.2 4) ((K 6).2.2.2 5) ((K 6).2.2.2 3) ((K 6).2.2.2 0) ((K 6).2.2.2 2) ((K 6).1) b).2.1), ((cF ((K 6).2.2.2 6) ((K 6).2.2.2 7) ((K 6).2.2.2 1) ((K 6).2.2.2 4) ((K 6).2.2.2 5) ((K 6).2.2.2 3) ((K 6).2.2.2 0) ((K 6).2.2.2 2) ((K 6).1) b).2.2.1), ((cF ((K 6).2.2.2 6) ((K 6).2.2.2 7) ((K 6).2.2.2 1) ((K 6).2.2.2 4) ((K 6).2.2.2 5) ((K 6).2.2.2 3) ((K 6).2.2.2 0) ((K 6).2.2.2 2) ((K 6).1) b).2.2.2)), n, T) ((nI 0), sm, ln, at_, wl, rm, (fF (Rw 0) (K 6).1 q), ha, Rw) ou H locs ls ⟨hP, hD, hS, hI, hl⟩
theorem hdL_costAfterNight : yL_costAfterNight.cls ≠ "java/lang/invoke/MethodHandle" ∧ yL_costAfterNight.cls ≠ "java/lang/invoke/VarHandle" ∧ (parseMethodDescriptor yL_costAfterNight.desc).map (fun d => d.parameters.length) = some 3 := by decide +kernel
theorem hdX6_costAfterNight : yX6_costAfterNight.cls = RX6 ∧ yX6_costAfterNight.cls ≠ "java/lang/invoke/MethodHandle" ∧ yX6_costAfterNight.cls ≠ "java/lang/invoke/VarHandle" ∧ (parseMethodDescriptor yX6_costAfterNight.desc).map (fun d => d.parameters.length) = some 1 := by decide +kernel
set_option maxHeartbeats 4000000 in
set_option maxRecDepth 100000 in
theorem LC_costAfterNight (C : LC0 p l s m args c b0 L xs dC dI cI cV cW cL wa sw ad aK aV sa) (hi : i + 3 < L) (hcl : cells + 3 ≤ 601024) (hsl : slots + 18 ≤ 7293034) (h : LST s dC dI cI cV cW cL a A X M ou H locs b0 i ls) (kk : ∀ (A : Nat → Nat → Nat) (X : XS) (M : MS) (ou : Nat → Int64) (H : Heap) (locs : List Loc) (ls : Array Slot), LST s dC dI cI cV cW cL a A X M ou H locs b0 i ls → W p l e room_1 s m args below meth c H locs (cells + 3) (slots + 18) Q (F0 m 1461 ls [])) : W p l e room_1 s m args below meth c H locs cells slots Q (F0 m 1055 ls []) := by
  obtain ⟨hx, hb, hml, hown, hts, hX, hbl, hL, hK, hIm, hNw, hXm, hC3, hlt⟩ := C
  obtain ⟨hP, hD, hS, hI, hl⟩ := h
  obtain ⟨K, b, n, T⟩ := X
  obtain ⟨th, sm, ln, at_, wl, rm, q, ha, Rw⟩ := M
  have hV : RV (Rw 0) (K 6).1 (K 6).2.1 (K 6).2.2.1 ((K 6).2.2.2 0) ((K 6).2.2.2 1) ((K 6).2.2.2 2) ((K 6).2.2.2 3) ((K 6).2.2.2 4) ((K 6).2.2.2 5) ((K 6).2.2.2 6) ((K 6).2.2.2 7) := hI.1
  have hn6 : n ≤ 6 := hI.2.1
  have hsm : sm = n := hI.2.2.1
  have hsm6 : sm ≤ 6 := by omega
  have hSR : SR (Rw 2) K n := hI.2.2.2.1
  have hnn : T.1 ≤ 60 := hI.2.2.2.2.1
  have hln : ln = T.1 := hI.2.2.2.2.2.1
  have hln6 : ln ≤ 60 := by omega
  have hBu : Rw 3 = T.2.2.2.1 := hI.2.2.2.2.2.2
  have hA : ∀ q : Nat, s.heap.size ≤ q → Fr s q := fun _ h => h
  have hbA : ¬ Fr s b0 := Nat.not_le.mpr hbl
  refine lv_aload_n hx hb dL_law_1055 rfl (lv_at hl 3 rfl) ?_
  refine n_arg (L := L) (i := i) (k := 1) hx hb hX hbl hbA hS (by omega) hL dL_law_1056 dL_law_1057 dL_law_1059 dL_law_1060 dL_law_1061 (by decide) (lv_at hl 4 rfl) (lv_at hl 0 rfl) ?_
  refine lv_aload_n hx hb dL_law_1062 rfl (lv_at hl 1 rfl) ?_
  have hFc := freeW hD hS hA
  refine va_calli (vx_runSW (hh := [(0, 9, 12, 15)]) (As := [.ref (a 0), .int (xs (i + 1)), .ref (a 14)]) (rest := []) ⟨hx, hb, hml, hown, hts⟩ (hL_costAfterNight l dC dI cI cV cW cL wa sw ad aK aV sa H.size a A hlt K b n T (th, sm, ln, at_, wl, rm, q, ha, Rw) ou (xs (i + 1)) hV.vo) (vx_cwSW 3 hts (gF2 gL_law_L_costAfterNight (by decide +kernel)) rfl rfl rfl hdL_costAfterNight ⟨Nat.le_of_ble_eq_true rfl, Nat.le_of_ble_eq_true rfl⟩) (pL_S (A := Fr s) hK (imW hIm hS hFc) hNw (hXm.at hS hFc) hC3 hP hD) rfl rfl hl.1 rfl (lv_room (Nat.le_of_ble_eq_true rfl)) dL_law_1063 ⟨Nat.le_trans (by omega) hcl, Nat.le_trans (by omega) hsl⟩) hS (fun q _ h => hFc q h) hFc (fun r_1 u_ t_ H1 locs ht_ hvm_ hw1 hB_ hz_ hk_ hS => ?_)
  obtain ⟨hP1, hD1⟩ := hB_
  rw [ht_] at hP1
  have pl := PL_costAfterNight hI hw1
  have hP := hP1
  have hD := hD1.weaken (fun _ q _ h => hFc q.1 h)
  clear hP1 hD1 hFc hk_ hz_ hvm_ ht_ hw1
  generalize H1 = H at hP hS ⊢
  obtain ⟨A1, X1, ou1⟩ := u_
  refine lv_istore (lv' := [(5, .int r_1), (4, .int (nI i)), (3, .ref (a 14)), (2, .ref (a 8)), (1, .ref (a 0)), (0, .ref b0)]) hx hb dL_law_1066 hl (by decide) rfl (fun ls hl => ?_)
  refine lv_aload_n hx hb dL_law_1068 rfl (lv_at hl 3 rfl) ?_
  refine n_arg (L := L) (i := i) (k := 1) hx hb hX hbl hbA hS (by omega) hL dL_law_1069 dL_law_1070 dL_law_1072 dL_law_1073 dL_law_1074 (by decide) (lv_at hl 5 rfl) (lv_at hl 1 rfl) ?_
  have hFc := freeW hD hS hA
  refine va_calli (va_runV (As := [.int (xs (i + 1))]) (rest := []) ⟨hx, hb, hml, hown, hts⟩ (aX6_costAfterNight l dC dI cI cV cW cL wa sw ad aK aV sa H.size a A1 X1 th sm ln at_ wl rm q ha Rw ou1 (K 6).1 (xs (i + 1)) hV.ro) (cwV 1 hts (gF2 gL_law_X6_costAfterNight (by decide +kernel)) rfl rfl rfl hdX6_costAfterNight ⟨Nat.le_of_ble_eq_true rfl, Nat.le_of_ble_eq_true rfl⟩) (pL_V (A := Fr s) hK (imW hIm hS hFc) hNw (hXm.at hS hFc) hC3 hP hD 80 4 rfl rfl rfl) rfl rfl hl.1 rfl (lv_room (Nat.le_of_ble_eq_true rfl)) dL_law_1075 ⟨Nat.le_trans (by omega) hcl, Nat.le_trans (by omega) hsl⟩) hS (fun q _ h => hFc q h) hFc (fun r_2 u2_ t_ H1 locs ht_ hvm_ hw2 hB_ hz_ hk_ hS => ?_)
  obtain ⟨hP1, hD1⟩ := hB_
  rw [ht_] at hP1
  have hP := hP1
  have hD := hD1.weaken (fun _ q _ h => hFc q.1 h)
  clear hP1 hD1 hFc hk_ hz_ hvm_ ht_ u2_
  generalize H1 = H at hP hS ⊢
  refine lv_istore (lv' := [(6, .int r_2), (5, .int r_1), (4, .int (nI i)), (3, .ref (a 14)), (2, .ref (a 8)), (1, .ref (a 0)), (0, .ref b0)]) hx hb dL_law_1078 hl (by decide) rfl (fun ls hl => ?_)
  refine lv_aload_n hx hb dL_law_1080 rfl (lv_at hl 4 rfl) ?_
  have hFc := freeW hD hS hA
  refine va_calli (va_runV (As := []) (rest := []) ⟨hx, hb, hml, hown, hts⟩ (aX6_thrown l dC dI cI cV cW cL wa sw ad aK aV sa H.size a A1 X1 ((nI (if sIn (xs (i + 1)) 1 20 = true then 0 else 1))) (sm) (ln) (at_) (wl) (rm) (((if sIn (xs (i + 1)) 1 20 = true then ((fWk (Rw 0) (K 6).1 (ix (xs (i + 1))) q).2.2).1 else q.1), (if sIn (xs (i + 1)) 1 20 = true then ((fWk (Rw 0) (K 6).1 (ix (xs (i + 1))) q).2.2).2.1 else q.2.1), (if sIn (xs (i + 1)) 1 20 = true then ((fWk (Rw 0) (K 6).1 (ix (xs (i + 1))) q).2.2).2.2.1 else q.2.2.1), if sIn (xs (i + 1)) 1 20 = true then ((fWk (Rw 0) (K 6).1 (ix (xs (i + 1))) q).2.2).2.2.2 else q.2.2.2)) (ha) (mk5 (if sIn (xs (i + 1)) 1 20 = true then fCq (fCq (Rw 0) (Rw 1) 96) (fWkS (Rw 0) (K 6).1 (ix (xs (i + 1))) q) 96 else (Rw 0)) (if sIn (xs (i + 1)) 1 20 = true then fCq (Rw 0) (Rw 1) 96 else (Rw 1)) (Rw 2) (Rw 3) (Rw 4)) ou1) (cwV 0 hts (gF2 gL_law_X6_thrown (by decide +kernel)) rfl rfl rfl hdX6_thrown ⟨Nat.le_of_ble_eq_true rfl, Nat.le_of_ble_eq_true rfl⟩) (pL_V (A := Fr s) hK (imW hIm hS hFc) hNw (hXm.at hS hFc) hC3 hP hD 80 4 rfl rfl rfl) rfl rfl hl.1 rfl (lv_room (Nat.le_of_ble_eq_true rfl)) dL_law_1081 ⟨Nat.le_trans (by omega) hcl, Nat.le_trans (by omega) hsl⟩) hS (fun q _ h => hFc q h) hFc (fun r_3 u3_ t_ H1 locs ht_ hvm_ hw3 hB_ hz_ hk_ hS => ?_)
  obtain ⟨hP1, hD1⟩ := hB_
  rw [ht_] at hP1
  have hP := hP1
  have hD := hD1.weaken (fun _ q _ h => hFc q.1 h)
  clear hP1 hD1 hFc hk_ hz_ hvm_ ht_ u3_
  generalize H1 = H at hP hS ⊢
  have fin : W p l e room_1 s m args below meth c H locs (cells + 1 + 0 + 0) (slots + 6 + 0 + 0) Q (F0 m 1108 ls []) := by
    refine lv_goto (tgt := 1461) hx hb dL_law_1108 (by decide) ?_
    refine W.widen (k := cells + 3) (n := slots + 18) (by omega) (by omega) ?_
    exact kk A1 X1 _ ou1 H locs ls ⟨hP, hD, hS, pl.2.2, lv_sub hl [2, 3, 4, 5, 6] rfl⟩
  refine lv_iload hx hb dL_law_1084 (lv_at hl 1 rfl) ?_
  refine lv_icmp_eq (tgt := 1091) hx hb dL_law_1086 (by decide) (fun _ => ?_) (fun c9 => absurd (hw3.trans pl.1.symm) c9)
  refine lv_iload hx hb dL_law_1091 (lv_at hl 1 rfl) ?_
  refine lv_if_ne (tgt := 1108) hx hb dL_law_1093 (by decide) (fun _ => fin) (fun c9 => ?_)
  refine lv_aload_n hx hb dL_law_1096 rfl (lv_at hl 3 rfl) ?_
  refine lv_iconst (v := (nI 0)) hx hb dL_law_1097 (by decide) ?_
  refine va_lald hx hb hK hP 86 3 rfl rfl (vp_in_nI (by decide) (by decide)) dL_law_1098 ?_
  refine lv_iload hx hb dL_law_1099 (lv_at hl 0 rfl) ?_
  refine lv_i2l (v := r_2.toInt64) hx hb dL_law_1101 rfl ?_
  exact n_lcmp hx hb (by rw [nI_clamp (by decide), hw2]; exact pl.2.1 (c9.trans nI_0.symm)) dL_law_1102 dL_law_1103 (by decide) fin
theorem hdL_walkTo : yL_walkTo.cls ≠ "java/lang/invoke/MethodHandle" ∧ yL_walkTo.cls ≠ "java/lang/invoke/VarHandle" ∧ (parseMethodDescriptor yL_walkTo.desc).map (fun d => d.parameters.length) = some 3 := by decide +kernel
theorem hdX6_walkTo : yX6_walkTo.cls = RX6 ∧ yX6_walkTo.cls ≠ "java/lang/invoke/MethodHandle" ∧ yX6_walkTo.cls ≠ "java/lang/invoke/VarHandle" ∧ (parseMethodDescriptor yX6_walkTo.desc).map (fun d => d.parameters.length) = some 1 := by decide +kernel
set_option maxHeartbeats 4000000 in
set_option maxRecDepth 100000 in
theorem LC_walkTo (C : LC0 p l s m args c b0 L xs dC dI cI cV cW cL wa sw ad aK aV sa) (hi : i + 3 < L) (hcl : cells + 3 ≤ 601024) (hsl : slots + 18 ≤ 7293034) (h : LST s dC dI cI cV cW cL a A X M ou H locs b0 i ls) (kk : ∀ (A : Nat → Nat → Nat) (X : XS) (M : MS) (ou : Nat → Int64) (H : Heap) (locs : List Loc) (ls : Array Slot), LST s dC dI cI cV cW cL a A X M ou H locs b0 i ls → W p l e room_1 s m args below meth c H locs (cells + 3) (slots + 18) Q (F0 m 1461 ls [])) : W p l e room_1 s m args below meth c H locs cells slots Q (F0 m 1111 ls []) := by
  obtain ⟨hx, hb, hml, hown, hts, hX, hbl, hL, hK, hIm, hNw, hXm, hC3, hlt⟩ := C
  obtain ⟨hP, hD, hS, hI, hl⟩ := h
  obtain ⟨K, b, n, T⟩ := X
  obtain ⟨th, sm, ln, at_, wl, rm, q, ha, Rw⟩ := M
  have hV : RV (Rw 0) (K 6).1 (K 6).2.1 (K 6).2.2.1 ((K 6).2.2.2 0) ((K 6).2.2.2 1) ((K 6).2.2.2 2) ((K 6).2.2.2 3) ((K 6).2.2.2 4) ((K 6).2.2.2 5) ((K 6).2.2.2 6) ((K 6).2.2.2 7) := hI.1
  have hn6 : n ≤ 6 := hI.2.1
  have hsm : sm = n := hI.2.2.1
  have hsm6 : sm ≤ 6 := by omega
  have hSR : SR (Rw 2) K n := hI.2.2.2.1
  have hnn : T.1 ≤ 60 := hI.2.2.2.2.1
  have hln : ln = T.1 := hI.2.2.2.2.2.1
  have hln6 : ln ≤ 60 := by omega
  have hBu : Rw 3 = T.2.2.2.1 := hI.2.2.2.2.2.2
  have hA : ∀ q : Nat, s.heap.size ≤ q → Fr s q := fun _ h => h
  have hbA : ¬ Fr s b0 := Nat.not_le.mpr hbl
  refine lv_aload_n hx hb dL_law_1111 rfl (lv_at hl 3 rfl) ?_
  refine n_arg (L := L) (i := i) (k := 1) hx hb hX hbl hbA hS (by omega) hL dL_law_1112 dL_law_1113 dL_law_1115 dL_law_1116 dL_law_1117 (by decide) (lv_at hl 4 rfl) (lv_at hl 0 rfl) ?_
  refine lv_aload_n hx hb dL_law_1118 rfl (lv_at hl 1 rfl) ?_
  have hFc := freeW hD hS hA
  refine va_calli (vx_runSW (hh := [(0, 9, 12, 13)]) (As := [.ref (a 0), .int (xs (i + 1)), .ref (a 14)]) (rest := []) ⟨hx, hb, hml, hown, hts⟩ (hL_walkTo l dC dI cI cV cW cL wa sw ad aK aV sa H.size a A hlt K b n T (th, sm, ln, at_, wl, rm, q, ha, Rw) ou (xs (i + 1)) hV.vo) (vx_cwSW 3 hts (gF2 gL_law_L_walkTo (by decide +kernel)) rfl rfl rfl hdL_walkTo ⟨Nat.le_of_ble_eq_true rfl, Nat.le_of_ble_eq_true rfl⟩) (pL_S (A := Fr s) hK (imW hIm hS hFc) hNw (hXm.at hS hFc) hC3 hP hD) rfl rfl hl.1 rfl (lv_room (Nat.le_of_ble_eq_true rfl)) dL_law_1119 ⟨Nat.le_trans (by omega) hcl, Nat.le_trans (by omega) hsl⟩) hS (fun q _ h => hFc q h) hFc (fun r_1 u_ t_ H1 locs ht_ hvm_ hw1 hB_ hz_ hk_ hS => ?_)
  obtain ⟨hP1, hD1⟩ := hB_
  rw [ht_] at hP1
  have pl := PL_walkTo hI hw1
  have hP := hP1
  have hD := hD1.weaken (fun _ q _ h => hFc q.1 h)
  clear hP1 hD1 hFc hk_ hz_ hvm_ ht_ hw1
  generalize H1 = H at hP hS ⊢
  obtain ⟨A1, X1, ou1⟩ := u_
  refine lv_istore (lv' := [(5, .int r_1), (4, .int (nI i)), (3, .ref (a 14)), (2, .ref (a 8)), (1, .ref (a 0)), (0, .ref b0)]) hx hb dL_law_1122 hl (by decide) rfl (fun ls hl => ?_)
  refine lv_aload_n hx hb dL_law_1124 rfl (lv_at hl 3 rfl) ?_
  refine n_arg (L := L) (i := i) (k := 1) hx hb hX hbl hbA hS (by omega) hL dL_law_1125 dL_law_1126 dL_law_1128 dL_law_1129 dL_law_1130 (by decide) (lv_at hl 5 rfl) (lv_at hl 1 rfl) ?_
  have hFc := freeW hD hS hA
  refine va_calli (va_runV (As := [.int (xs (i + 1))]) (rest := []) ⟨hx, hb, hml, hown, hts⟩ (aX6_walkTo l dC dI cI cV cW cL wa sw ad aK aV sa H.size a A1 X1 th sm ln at_ wl rm q ha Rw ou1 (K 6).1 (xs (i + 1)) hV.ro) (cwV 1 hts (gF2 gL_law_X6_walkTo (by decide +kernel)) rfl rfl rfl hdX6_walkTo ⟨Nat.le_of_ble_eq_true rfl, Nat.le_of_ble_eq_true rfl⟩) (pL_V (A := Fr s) hK (imW hIm hS hFc) hNw (hXm.at hS hFc) hC3 hP hD 80 4 rfl rfl rfl) rfl rfl hl.1 rfl (lv_room (Nat.le_of_ble_eq_true rfl)) dL_law_1131 ⟨Nat.le_trans (by omega) hcl, Nat.le_trans (by omega) hsl⟩) hS (fun q _ h => hFc q h) hFc (fun r_2 u2_ t_ H1 locs ht_ hvm_ hw2 hB_ hz_ hk_ hS => ?_)
  obtain ⟨hP1, hD1⟩ := hB_
  rw [ht_] at hP1
  have hP := hP1
  have hD := hD1.weaken (fun _ q _ h => hFc q.1 h)
  clear hP1 hD1 hFc hk_ hz_ hvm_ ht_ u2_
  generalize H1 = H at hP hS ⊢
  refine lv_istore (lv' := [(6, .int r_2), (5, .int r_1), (4, .int (nI i)), (3, .ref (a 14)), (2, .ref (a 8)), (1, .ref (a 0)), (0, .ref b0)]) hx hb dL_law_1134 hl (by decide) rfl (fun ls hl => ?_)
  refine lv_aload_n hx hb dL_law_1136 rfl (lv_at hl 4 rfl) ?_
  have hFc := freeW hD hS hA
  refine va_calli (va_runV (As := []) (rest := []) ⟨hx, hb, hml, hown, hts⟩ (aX6_thrown l dC dI cI cV cW cL wa sw ad aK aV sa H.size a A1 X1 ((nI (if sIn (xs (i + 1)) 0 ((Rw 0) 0 - 1) = true then 0 else 1))) (sm) (ln) (at_) (wl) (rm) (q) (ha) (Rw) ou1) (cwV 0 hts (gF2 gL_law_X6_thrown (by decide +kernel)) rfl rfl rfl hdX6_thrown ⟨Nat.le_of_ble_eq_true rfl, Nat.le_of_ble_eq_true rfl⟩) (pL_V (A := Fr s) hK (imW hIm hS hFc) hNw (hXm.at hS hFc) hC3 hP hD 80 4 rfl rfl rfl) rfl rfl hl.1 rfl (lv_room (Nat.le_of_ble_eq_true rfl)) dL_law_1137 ⟨Nat.le_trans (by omega) hcl, Nat.le_trans (by omega) hsl⟩) hS (fun q _ h => hFc q h) hFc (fun r_3 u3_ t_ H1 locs ht_ hvm_ hw3 hB_ hz_ hk_ hS => ?_)
  obtain ⟨hP1, hD1⟩ := hB_
  rw [ht_] at hP1
  have hP := hP1
  have hD := hD1.weaken (fun _ q _ h => hFc q.1 h)
  clear hP1 hD1 hFc hk_ hz_ hvm_ ht_ u3_
  generalize H1 = H at hP hS ⊢
  have fin : W p l e room_1 s m args below meth c H locs (cells + 1 + 0 + 0) (slots + 6 + 0 + 0) Q (F0 m 1164 ls []) := by
    refine lv_goto (tgt := 1461) hx hb dL_law_1164 (by decide) ?_
    refine W.widen (k := cells + 3) (n := slots + 18) (by omega) (by omega) ?_
    exact kk A1 X1 _ ou1 H locs ls ⟨hP, hD, hS, pl.2.2, lv_sub hl [2, 3, 4, 5, 6] rfl⟩
  refine lv_iload hx hb dL_law_1140 (lv_at hl 1 rfl) ?_
  refine lv_icmp_eq (tgt := 1147) hx hb dL_law_1142 (by decide) (fun _ => ?_) (fun c9 => absurd (hw3.trans pl.1.symm) c9)
  refine lv_iload hx hb dL_law_1147 (lv_at hl 1 rfl) ?_
  refine lv_if_ne (tgt := 1164) hx hb dL_law_1149 (by decide) (fun _ => fin) (fun c9 => ?_)
  refine lv_aload_n hx hb dL_law_1152 rfl (lv_at hl 3 rfl) ?_
  refine lv_iconst (v := (nI 0)) hx hb dL_law_1153 (by decide) ?_
  refine va_lald hx hb hK hP 86 3 rfl rfl (vp_in_nI (by decide) (by decide)) dL_law_1154 ?_
  refine lv_iload hx hb dL_law_1155 (lv_at hl 0 rfl) ?_
  refine lv_i2l (v := r_2.toInt64) hx hb dL_law_1157 rfl ?_
  exact n_lcmp hx hb (by rw [nI_clamp (by decide), hw2]; exact pl.2.1 (c9.trans nI_0.symm)) dL_law_1158 dL_law_1159 (by decide) fin
theorem hdL_shelfFor : yL_shelfFor.cls ≠ "java/lang/invoke/MethodHandle" ∧ yL_shelfFor.cls ≠ "java/lang/invoke/VarHandle" ∧ (parseMethodDescriptor yL_shelfFor.desc).map (fun d => d.parameters.length) = some 3 := by decide +kernel
theorem hdX6_shelfFor : yX6_shelfFor.cls = RX6 ∧ yX6_shelfFor.cls ≠ "java/lang/invoke/MethodHandle" ∧ yX6_shelfFor.cls ≠ "java/lang/invoke/VarHandle" ∧ (parseMethodDescriptor yX6_shelfFor.desc).map (fun d => d.parameters.length) = some 1 := by decide +kernel
set_option maxHeartbeats 4000000 in
set_option maxRecDepth 100000 in
theorem LC_shelfFor (C : LC0 p l s m args c b0 L xs dC dI cI cV cW cL wa sw ad aK aV sa) (hi : i + 3 < L) (hcl : cells + 3 ≤ 601024) (hsl : slots + 18 ≤ 7293034) (h : LST s dC dI cI cV cW cL a A X M ou H locs b0 i ls) (kk : ∀ (A : Nat → Nat → Nat) (X : XS) (M : MS) (ou : Nat → Int64) (H : Heap) (locs : List Loc) (ls : Array Slot), LST s dC dI cI cV cW cL a A X M ou H locs b0 i ls → W p l e room_1 s m args below meth c H locs (cells + 3) (slots + 18) Q (F0 m 1461 ls [])) : W p l e room_1 s m args below meth c H locs cells slots Q (F0 m 1167 ls []) := by
  obtain ⟨hx, hb, hml, hown, hts, hX, hbl, hL, hK, hIm, hNw, hXm, hC3, hlt⟩ := C
  obtain ⟨hP, hD, hS, hI, hl⟩ := h
  obtain ⟨K, b, n, T⟩ := X
  obtain ⟨th, sm, ln, at_, wl, rm, q, ha, Rw⟩ := M
  have hV : RV (Rw 0) (K 6).1 (K 6).2.1 (K 6).2.2.1 ((K 6).2.2.2 0) ((K 6).2.2.2 1) ((K 6).2.2.2 2) ((K 6).2.2.2 3) ((K 6).2.2.2 4) ((K 6).2.2.2 5) ((K 6).2.2.2 6) ((K 6).2.2.2 7) := hI.1
  have hn6 : n ≤ 6 := hI.2.1
  have hsm : sm = n := hI.2.2.1
  have hsm6 : sm ≤ 6 := by omega
  have hSR : SR (Rw 2) K n := hI.2.2.2.1
  have hnn : T.1 ≤ 60 := hI.2.2.2.2.1
  have hln : ln = T.1 := hI.2.2.2.2.2.1
  have hln6 : ln ≤ 60 := by omega
  have hBu : Rw 3 = T.2.2.2.1 := hI.2.2.2.2.2.2
  have hA : ∀ q : Nat, s.heap.size ≤ q → Fr s q := fun _ h => h
  have hbA : ¬ Fr s b0 := Nat.not_le.mpr hbl
  refine lv_aload_n hx hb dL_law_1167 rfl (lv_at hl 3 rfl) ?_
  refine n_arg (L := L) (i := i) (k := 1) hx hb hX hbl hbA hS (by omega) hL dL_law_1168 dL_law_1169 dL_law_1171 dL_law_1172 dL_law_1173 (by decide) (lv_at hl 4 rfl) (lv_at hl 0 rfl) ?_
  refine lv_aload_n hx hb dL_law_1174 rfl (lv_at hl 1 rfl) ?_
  have hFc := freeW hD hS hA
  refine va_calli (vx_runSW (hh := [(0, 9, 12, 15)]) (As := [.ref (a 0), .int (xs (i + 1)), .ref (a 14)]) (rest := []) ⟨hx, hb, hml, hown, hts⟩ (hL_shelfFor l dC dI cI cV cW cL wa sw ad aK aV sa H.size a A hlt K b n T (th, sm, ln, at_, wl, rm, q, ha, Rw) ou (xs (i + 1)) ) (vx_cwSW 3 hts (gF2 gL_law_L_shelfFor (by decide +kernel)) rfl rfl rfl hdL_shelfFor ⟨Nat.le_of_ble_eq_true rfl, Nat.le_of_ble_eq_true rfl⟩) (pL_S (A := Fr s) hK (imW hIm hS hFc) hNw (hXm.at hS hFc) hC3 hP hD) rfl rfl hl.1 rfl (lv_room (Nat.le_of_ble_eq_true rfl)) dL_law_1175 ⟨Nat.le_trans (by omega) hcl, Nat.le_trans (by omega) hsl⟩) hS (fun q _ h => hFc q h) hFc (fun r_1 u_ t_ H1 locs ht_ hvm_ hw1 hB_ hz_ hk_ hS => ?_)
  obtain ⟨hP1, hD1⟩ := hB_
  rw [ht_] at hP1
  have pl := PL_shelfFor hI hw1
  have hP := hP1
  have hD := hD1.weaken (fun _ q _ h => hFc q.1 h)
  clear hP1 hD1 hFc hk_ hz_ hvm_ ht_ hw1
  generalize H1 = H at hP hS ⊢
  obtain ⟨A1, X1, ou1⟩ := u_
  refine lv_istore (lv' := [(5, .int r_1), (4, .int (nI i)), (3, .ref (a 14)), (2, .ref (a 8)), (1, .ref (a 0)), (0, .ref b0)]) hx hb dL_law_1178 hl (by decide) rfl (fun ls hl => ?_)
  refine lv_aload_n hx hb dL_law_1180 rfl (lv_at hl 3 rfl) ?_
  refine n_arg (L := L) (i := i) (k := 1) hx hb hX hbl hbA hS (by omega) hL dL_law_1181 dL_law_1182 dL_law_1184 dL_law_1185 dL_law_1186 (by decide) (lv_at hl 5 rfl) (lv_at hl 1 rfl) ?_
  have hFc := freeW hD hS hA
  refine va_calli (va_runV (As := [.int (xs (i + 1))]) (rest := []) ⟨hx, hb, hml, hown, hts⟩ (aX6_shelfFor l dC dI cI cV cW cL wa sw ad aK aV sa H.size a A1 X1 th sm ln at_ wl rm q ha Rw ou1 (K 6).1 (xs (i + 1)) hV.ro) (cwV 1 hts (gF2 gL_law_X6_shelfFor (by decide +kernel)) rfl rfl rfl hdX6_shelfFor ⟨Nat.le_of_ble_eq_true rfl, Nat.le_of_ble_eq_true rfl⟩) (pL_V (A := Fr s) hK (imW hIm hS hFc) hNw (hXm.at hS hFc) hC3 hP hD 80 4 rfl rfl rfl) rfl rfl hl.1 rfl (lv_room (Nat.le_of_ble_eq_true rfl)) dL_law_1187 ⟨Nat.le_trans (by omega) hcl, Nat.le_trans (by omega) hsl⟩) hS (fun q _ h => hFc q h) hFc (fun r_2 u2_ t_ H1 locs ht_ hvm_ hw2 hB_ hz_ hk_ hS => ?_)
  obtain ⟨hP1, hD1⟩ := hB_
  rw [ht_] at hP1
  have hP := hP1
  have hD := hD1.weaken (fun _ q _ h => hFc q.1 h)
  clear hP1 hD1 hFc hk_ hz_ hvm_ ht_ u2_
  generalize H1 = H at hP hS ⊢
  refine lv_istore (lv' := [(6, .int r_2), (5, .int r_1), (4, .int (nI i)), (3, .ref (a 14)), (2, .ref (a 8)), (1, .ref (a 0)), (0, .ref b0)]) hx hb dL_law_1190 hl (by decide) rfl (fun ls hl => ?_)
  refine lv_aload_n hx hb dL_law_1192 rfl (lv_at hl 4 rfl) ?_
  have hFc := freeW hD hS hA
  refine va_calli (va_runV (As := []) (rest := []) ⟨hx, hb, hml, hown, hts⟩ (aX6_thrown l dC dI cI cV cW cL wa sw ad aK aV sa H.size a A1 X1 ((nI (if sIn (xs (i + 1)) 1 30 = true then 0 else 1))) (sm) (ln) (at_) (wl) (rm) (q) (ha) (Rw) ou1) (cwV 0 hts (gF2 gL_law_X6_thrown (by decide +kernel)) rfl rfl rfl hdX6_thrown ⟨Nat.le_of_ble_eq_true rfl, Nat.le_of_ble_eq_true rfl⟩) (pL_V (A := Fr s) hK (imW hIm hS hFc) hNw (hXm.at hS hFc) hC3 hP hD 80 4 rfl rfl rfl) rfl rfl hl.1 rfl (lv_room (Nat.le_of_ble_eq_true rfl)) dL_law_1193 ⟨Nat.le_trans (by omega) hcl, Nat.le_trans (by omega) hsl⟩) hS (fun q _ h => hFc q h) hFc (fun r_3 u3_ t_ H1 locs ht_ hvm_ hw3 hB_ hz_ hk_ hS => ?_)
  obtain ⟨hP1, hD1⟩ := hB_
  rw [ht_] at hP1
  have hP := hP1
  have hD := hD1.weaken (fun _ q _ h => hFc q.1 h)
  clear hP1 hD1 hFc hk_ hz_ hvm_ ht_ u3_
  generalize H1 = H at hP hS ⊢
  have fin : W p l e room_1 s m args below meth c H locs (cells + 1 + 0 + 0) (slots + 6 + 0 + 0) Q (F0 m 1220 ls []) := by
    refine lv_goto (tgt := 1461) hx hb dL_law_1220 (by decide) ?_
    refine W.widen (k := cells + 3) (n := slots + 18) (by omega) (by omega) ?_
    exact kk A1 X1 _ ou1 H locs ls ⟨hP, hD, hS, pl.2.2, lv_sub hl [2, 3, 4, 5, 6] rfl⟩
  refine lv_iload hx hb dL_law_1196 (lv_at hl 1 rfl) ?_
  refine lv_icmp_eq (tgt := 1203) hx hb dL_law_1198 (by decide) (fun _ => ?_) (fun c9 => absurd (hw3.trans pl.1.symm) c9)
  refine lv_iload hx hb dL_law_1203 (lv_at hl 1 rfl) ?_
  refine lv_if_ne (tgt := 1220) hx hb dL_law_1205 (by decide) (fun _ => fin) (fun c9 => ?_)
  refine lv_aload_n hx hb dL_law_1208 rfl (lv_at hl 3 rfl) ?_
  refine lv_iconst (v := (nI 0)) hx hb dL_law_1209 (by decide) ?_
  refine va_lald hx hb hK hP 86 3 rfl rfl (vp_in_nI (by decide) (by decide)) dL_law_1210 ?_
  refine lv_iload hx hb dL_law_1211 (lv_at hl 0 rfl) ?_
  refine lv_i2l (v := r_2.toInt64) hx hb dL_law_1213 rfl ?_
  exact n_lcmp hx hb (by rw [nI_clamp (by decide), hw2]; exact pl.2.1 (c9.trans nI_0.symm)) dL_law_1214 dL_law_1215 (by decide) fin
theorem hdL_append : yL_append.cls ≠ "java/lang/invoke/MethodHandle" ∧ yL_append.cls ≠ "java/lang/invoke/VarHandle" ∧ (parseMethodDescriptor yL_append.desc).map (fun d => d.parameters.length) = some 3 := by decide +kernel
theorem hdX6_append : yX6_append.cls = RX6 ∧ yX6_append.cls ≠ "java/lang/invoke/MethodHandle" ∧ yX6_append.cls ≠ "java/lang/invoke/VarHandle" ∧ (parseMethodDescriptor yX6_append.desc).map (fun d => d.parameters.length) = some 1 := by decide +kernel
set_option maxHeartbeats 4000000 in
set_option maxRecDepth 100000 in
theorem LC_append (C : LC0 p l s m args c b0 L xs dC dI cI cV cW cL wa sw ad aK aV sa) (hi : i + 3 < L) (hcl : cells + 3 ≤ 601024) (hsl : slots + 18 ≤ 7293034) (h : LST s dC dI cI cV cW cL a A X M ou H locs b0 i ls) (kk : ∀ (A : Nat → Nat → Nat) (X : XS) (M : MS) (ou : Nat → Int64) (H : Heap) (locs : List Loc) (ls : Array Slot), LST s dC dI cI cV cW cL a A X M ou H locs b0 i ls → W p l e room_1 s m args below meth c H locs (cells + 3) (slots + 18) Q (F0 m 1461 ls [])) : W p l e room_1 s m args below meth c H locs cells slots Q (F0 m 1264 ls []) := by
  obtain ⟨hx, hb, hml, hown, hts, hX, hbl, hL, hK, hIm, hNw, hXm, hC3, hlt⟩ := C
  obtain ⟨hP, hD, hS, hI, hl⟩ := h
  obtain ⟨K, b, n, T⟩ := X
  obtain ⟨th, sm, ln, at_, wl, rm, q, ha, Rw⟩ := M
  have hV : RV (Rw 0) (K 6).1 (K 6).2.1 (K 6).2.2.1 ((K 6).2.2.2 0) ((K 6).2.2.2 1) ((K 6).2.2.2 2) ((K 6).2.2.2 3) ((K 6).2.2.2 4) ((K 6).2.2.2 5) ((K 6).2.2.2 6) ((K 6).2.2.2 7) := hI.1
  have hn6 : n ≤ 6 := hI.2.1
  have hsm : sm = n := hI.2.2.1
  have hsm6 : sm ≤ 6 := by omega
  have hSR : SR (Rw 2) K n := hI.2.2.2.1
  have hnn : T.1 ≤ 60 := hI.2.2.2.2.1
  have hln : ln = T.1 := hI.2.2.2.2.2.1
  have hln6 : ln ≤ 60 := by omega
  have hBu : Rw 3 = T.2.2.2.1 := hI.2.2.2.2.2.2
  have hA : ∀ q : Nat, s.heap.size ≤ q → Fr s q := fun _ h => h
  have hbA : ¬ Fr s b0 := Nat.not_le.mpr hbl
  refine lv_aload_n hx hb dL_law_1264 rfl (lv_at hl 3 rfl) ?_
  refine n_arg (L := L) (i := i) (k := 1) hx hb hX hbl hbA hS (by omega) hL dL_law_1265 dL_law_1266 dL_law_1268 dL_law_1269 dL_law_1270 (by decide) (lv_at hl 4 rfl) (lv_at hl 0 rfl) ?_
  refine lv_aload_n hx hb dL_law_1271 rfl (lv_at hl 1 rfl) ?_
  have hFc := freeW hD hS hA
  refine va_calli (vx_runSW (hh := [(0, 9, 12, 15), (0, 9, 15, 17)]) (As := [.ref (a 0), .int (xs (i + 1)), .ref (a 14)]) (rest := []) ⟨hx, hb, hml, hown, hts⟩ (hL_append l dC dI cI cV cW cL wa sw ad aK aV sa H.size a A hlt K b n T (th, sm, ln, at_, wl, rm, q, ha, Rw) ou (xs (i + 1)) hnn) (vx_cwSW 3 hts (gF2 gL_law_L_append (by decide +kernel)) rfl rfl rfl hdL_append ⟨Nat.le_of_ble_eq_true rfl, Nat.le_of_ble_eq_true rfl⟩) (pL_S (A := Fr s) hK (imW hIm hS hFc) hNw (hXm.at hS hFc) hC3 hP hD) rfl rfl hl.1 rfl (lv_room (Nat.le_of_ble_eq_true rfl)) dL_law_1272 ⟨Nat.le_trans (by omega) hcl, Nat.le_trans (by omega) hsl⟩) hS (fun q _ h => hFc q h) hFc (fun r_1 u_ t_ H1 locs ht_ hvm_ hw1 hB_ hz_ hk_ hS => ?_)
  obtain ⟨hP1, hD1⟩ := hB_
  rw [ht_] at hP1
  have pl := PL_append hI hw1
  have hP := hP1
  have hD := hD1.weaken (fun _ q _ h => hFc q.1 h)
  clear hP1 hD1 hFc hk_ hz_ hvm_ ht_ hw1
  generalize H1 = H at hP hS ⊢
  obtain ⟨A1, X1, ou1⟩ := u_
  refine lv_istore (lv' := [(5, .int r_1), (4, .int (nI i)), (3, .ref (a 14)), (2, .ref (a 8)), (1, .ref (a 0)), (0, .ref b0)]) hx hb dL_law_1275 hl (by decide) rfl (fun ls hl => ?_)
  refine lv_aload_n hx hb dL_law_1277 rfl (lv_at hl 3 rfl) ?_
  refine n_arg (L := L) (i := i) (k := 1) hx hb hX hbl hbA hS (by omega) hL dL_law_1278 dL_law_1279 dL_law_1281 dL_law_1282 dL_law_1283 (by decide) (lv_at hl 5 rfl) (lv_at hl 1 rfl) ?_
  have hFc := freeW hD hS hA
  refine va_calli (va_runV (As := [.int (xs (i + 1))]) (rest := []) ⟨hx, hb, hml, hown, hts⟩ (aX6_append l dC dI cI cV cW cL wa sw ad aK aV sa H.size a A1 X1 th sm ln at_ wl rm q ha Rw ou1 (xs (i + 1)) hln6) (cwV 1 hts (gF2 gL_law_X6_append (by decide +kernel)) rfl rfl rfl hdX6_append ⟨Nat.le_of_ble_eq_true rfl, Nat.le_of_ble_eq_true rfl⟩) (pL_V (A := Fr s) hK (imW hIm hS hFc) hNw (hXm.at hS hFc) hC3 hP hD 80 4 rfl rfl rfl) rfl rfl hl.1 rfl (lv_room (Nat.le_of_ble_eq_true rfl)) dL_law_1284 ⟨Nat.le_trans (by omega) hcl, Nat.le_trans (by omega) hsl⟩) hS (fun q _ h => hFc q h) hFc (fun r_2 u2_ t_ H1 locs ht_ hvm_ hw2 hB_ hz_ hk_ hS => ?_)
  obtain ⟨hP1, hD1⟩ := hB_
  rw [ht_] at hP1
  have hP := hP1
  have hD := hD1.weaken (fun _ q _ h => hFc q.1 h)
  clear hP1 hD1 hFc hk_ hz_ hvm_ ht_ u2_
  generalize H1 = H at hP hS ⊢
  refine lv_istore (lv' := [(6, .int r_2), (5, .int r_1), (4, .int (nI i)), (3, .ref (a 14)), (2, .ref (a 8)), (1, .ref (a 0)), (0, .ref b0)]) hx hb dL_law_1287 hl (by decide) rfl (fun ls hl => ?_)
  refine lv_aload_n hx hb dL_law_1289 rfl (lv_at hl 4 rfl) ?_
  have hFc := freeW hD hS hA
  refine va_calli (va_runV (As := []) (rest := []) ⟨hx, hb, hml, hown, hts⟩ (aX6_thrown l dC dI cI cV cW cL wa sw ad aK aV sa H.size a A1 X1 ((nI (cdApp ln (xs (i + 1))))) (sm) (if cdApp ln (xs (i + 1)) = 0 then ln + 1 else ln) (at_) (wl) (rm) (q) (ha) (mk5 (Rw 0) (Rw 1) (Rw 2) (if cdApp ln (xs (i + 1)) = 0 then upd (Rw 3) ln (xs (i + 1)) else (Rw 3)) (Rw 4)) ou1) (cwV 0 hts (gF2 gL_law_X6_thrown (by decide +kernel)) rfl rfl rfl hdX6_thrown ⟨Nat.le_of_ble_eq_true rfl, Nat.le_of_ble_eq_true rfl⟩) (pL_V (A := Fr s) hK (imW hIm hS hFc) hNw (hXm.at hS hFc) hC3 hP hD 80 4 rfl rfl rfl) rfl rfl hl.1 rfl (lv_room (Nat.le_of_ble_eq_true rfl)) dL_law_1290 ⟨Nat.le_trans (by omega) hcl, Nat.le_trans (by omega) hsl⟩) hS (fun q _ h => hFc q h) hFc (fun r_3 u3_ t_ H1 locs ht_ hvm_ hw3 hB_ hz_ hk_ hS => ?_)
  obtain ⟨hP1, hD1⟩ := hB_
  rw [ht_] at hP1
  have hP := hP1
  have hD := hD1.weaken (fun _ q _ h => hFc q.1 h)
  clear hP1 hD1 hFc hk_ hz_ hvm_ ht_ u3_
  generalize H1 = H at hP hS ⊢
  have fin : W p l e room_1 s m args below meth c H locs (cells + 2 + 0 + 0) (slots + 12 + 0 + 0) Q (F0 m 1317 ls []) := by
    refine lv_goto (tgt := 1461) hx hb dL_law_1317 (by decide) ?_
    refine W.widen (k := cells + 3) (n := slots + 18) (by omega) (by omega) ?_
    exact kk A1 X1 _ ou1 H locs ls ⟨hP, hD, hS, pl.2.2, lv_sub hl [2, 3, 4, 5, 6] rfl⟩
  refine lv_iload hx hb dL_law_1293 (lv_at hl 1 rfl) ?_
  refine lv_icmp_eq (tgt := 1300) hx hb dL_law_1295 (by decide) (fun _ => ?_) (fun c9 => absurd (hw3.trans pl.1.symm) c9)
  refine lv_iload hx hb dL_law_1300 (lv_at hl 1 rfl) ?_
  refine lv_if_ne (tgt := 1317) hx hb dL_law_1302 (by decide) (fun _ => fin) (fun c9 => ?_)
  refine lv_aload_n hx hb dL_law_1305 rfl (lv_at hl 3 rfl) ?_
  refine lv_iconst (v := (nI 0)) hx hb dL_law_1306 (by decide) ?_
  refine va_lald hx hb hK hP 86 3 rfl rfl (vp_in_nI (by decide) (by decide)) dL_law_1307 ?_
  refine lv_iload hx hb dL_law_1308 (lv_at hl 0 rfl) ?_
  refine lv_i2l (v := r_2.toInt64) hx hb dL_law_1310 rfl ?_
  exact n_lcmp hx hb (by rw [nI_clamp (by decide), hw2]; exact pl.2.1 (c9.trans nI_0.symm)) dL_law_1311 dL_law_1312 (by decide) fin
theorem hdX5_clearText : yX5_clearText.cls = RX5 ∧ yX5_clearText.cls ≠ "java/lang/invoke/MethodHandle" ∧ yX5_clearText.cls ≠ "java/lang/invoke/VarHandle" ∧ (parseMethodDescriptor yX5_clearText.desc).map (fun d => d.parameters.length) = some 0 := by decide +kernel
theorem hdX6_clearText : yX6_clearText.cls = RX6 ∧ yX6_clearText.cls ≠ "java/lang/invoke/MethodHandle" ∧ yX6_clearText.cls ≠ "java/lang/invoke/VarHandle" ∧ (parseMethodDescriptor yX6_clearText.desc).map (fun d => d.parameters.length) = some 0 := by decide +kernel
set_option maxHeartbeats 4000000 in
set_option maxRecDepth 100000 in
theorem LC_clearText (C : LC0 p l s m args c b0 L xs dC dI cI cV cW cL wa sw ad aK aV sa) (hi : i + 3 < L) (hcl : cells + 3 ≤ 601024) (hsl : slots + 18 ≤ 7293034) (h : LST s dC dI cI cV cW cL a A X M ou H locs b0 i ls) (kk : ∀ (A : Nat → Nat → Nat) (X : XS) (M : MS) (ou : Nat → Int64) (H : Heap) (locs : List Loc) (ls : Array Slot), LST s dC dI cI cV cW cL a A X M ou H locs b0 i ls → W p l e room_1 s m args below meth c H locs (cells + 3) (slots + 18) Q (F0 m 1461 ls [])) : W p l e room_1 s m args below meth c H locs cells slots Q (F0 m 1320 ls []) := by
  obtain ⟨hx, hb, hml, hown, hts, hX, hbl, hL, hK, hIm, hNw, hXm, hC3, hlt⟩ := C
  obtain ⟨hP, hD, hS, hI, hl⟩ := h
  obtain ⟨K, b, n, T⟩ := X
  obtain ⟨th, sm, ln, at_, wl, rm, q, ha, Rw⟩ := M
  have hV : RV (Rw 0) (K 6).1 (K 6).2.1 (K 6).2.2.1 ((K 6).2.2.2 0) ((K 6).2.2.2 1) ((K 6).2.2.2 2) ((K 6).2.2.2 3) ((K 6).2.2.2 4) ((K 6).2.2.2 5) ((K 6).2.2.2 6) ((K 6).2.2.2 7) := hI.1
  have hn6 : n ≤ 6 := hI.2.1
  have hsm : sm = n := hI.2.2.1
  have hsm6 : sm ≤ 6 := by omega
  have hSR : SR (Rw 2) K n := hI.2.2.2.1
  have hnn : T.1 ≤ 60 := hI.2.2.2.2.1
  have hln : ln = T.1 := hI.2.2.2.2.2.1
  have hln6 : ln ≤ 60 := by omega
  have hBu : Rw 3 = T.2.2.2.1 := hI.2.2.2.2.2.2
  have hA : ∀ q : Nat, s.heap.size ≤ q → Fr s q := fun _ h => h
  have hbA : ¬ Fr s b0 := Nat.not_le.mpr hbl
  refine lv_aload_n hx hb dL_law_1320 rfl (lv_at hl 3 rfl) ?_
  have hFc := freeW hD hS hA
  refine va_calli (va_runV (As := []) (rest := []) ⟨hx, hb, hml, hown, hts⟩ (aX5_clearText l dC dI cI cV cW cL wa sw ad aK aV sa H.size a A K b n T (th, sm, ln, at_, wl, rm, q, ha, Rw) ou ) (cwV 0 hts (gF2 gL_law_X5_clearText (by decide +kernel)) rfl rfl rfl hdX5_clearText ⟨Nat.le_of_ble_eq_true rfl, Nat.le_of_ble_eq_true rfl⟩) (pL_V (A := Fr s) hK (imW hIm hS hFc) hNw (hXm.at hS hFc) hC3 hP hD 0 3 rfl rfl rfl) rfl rfl hl.1 rfl (lv_room (Nat.le_of_ble_eq_true rfl)) dL_law_1321 ⟨Nat.le_trans (by omega) hcl, Nat.le_trans (by omega) hsl⟩) hS (fun q _ h => hFc q h) hFc (fun r_1 u_ t_ H1 locs ht_ hvm_ hw1 hB_ hz_ hk_ hS => ?_)
  obtain ⟨hP1, hD1⟩ := hB_
  rw [ht_] at hP1
  have hP := hP1
  have hD := hD1.weaken (fun _ q _ h => hFc q.1 h)
  clear hP1 hD1 hFc hk_ hz_ hvm_ ht_ u_
  generalize H1 = H at hP hS ⊢
  refine lv_aload_n hx hb dL_law_1324 rfl (lv_at hl 2 rfl) ?_
  have hFc := freeW hD hS hA
  refine va_calli (va_runV (As := []) (rest := [.int r_1]) ⟨hx, hb, hml, hown, hts⟩ (aX6_clearText l dC dI cI cV cW cL wa sw ad aK aV sa H.size a A (K, b, n, (0, T.2.1, T.2.2.1, T.2.2.2.1, T.2.2.2.2.1, T.2.2.2.2.2.1, T.2.2.2.2.2.2)) th sm ln at_ wl rm q ha Rw ou  ) (cwV 0 hts (gF2 gL_law_X6_clearText (by decide +kernel)) rfl rfl rfl hdX6_clearText ⟨Nat.le_of_ble_eq_true rfl, Nat.le_of_ble_eq_true rfl⟩) (pL_V (A := Fr s) hK (imW hIm hS hFc) hNw (hXm.at hS hFc) hC3 hP hD 80 4 rfl rfl rfl) rfl rfl hl.1 rfl (lv_room (Nat.le_of_ble_eq_true rfl)) dL_law_1325 ⟨Nat.le_trans (by omega) hcl, Nat.le_trans (by omega) hsl⟩) hS (fun q _ h => hFc q h) hFc (fun r_2 u2_ t_ H1 locs ht_ hvm_ hw2 hB_ hz_ hk_ hS => ?_)
  obtain ⟨hP1, hD1⟩ := hB_
  rw [ht_] at hP1
  have hP := hP1
  have hD := hD1.weaken (fun _ q _ h => hFc q.1 h)
  clear hP1 hD1 hFc hk_ hz_ hvm_ ht_ u2_
  generalize H1 = H at hP hS ⊢
  have hv : r_1 = r_2 := hw1.trans (Eq.trans (by rw [hln]) hw2.symm)
  refine lv_icmp_eq (tgt := 1461) hx hb dL_law_1328 (by decide) (fun _ => ?_) (fun q => absurd hv q)
  refine W.widen (k := cells + 3) (n := slots + 18) (by omega) (by omega) ?_
  exact kk A (K, b, n, (0, T.2.1, T.2.2.1, T.2.2.2.1, T.2.2.2.2.1, T.2.2.2.2.2.1, T.2.2.2.2.2.2)) ((nI 0), sm, 0, at_, wl, rm, q, ha, Rw) ou H locs ls ⟨hP, hD, hS, ⟨hI.1, hI.2.1, hI.2.2.1, hI.2.2.2.1, Nat.zero_le _, rfl, hBu⟩, hl⟩
end LAWCASES3
