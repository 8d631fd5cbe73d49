section LAWCASES1
variable {p : Program} {l : Launch} {e : Env} {s : State} {m : MethodId} {args : Array Value} {below : List Frame} {meth : Method} {c : Code} {H : Heap} {locs : List Loc} {cells slots : Nat} {Q : State → Prop} {ls : Array Slot}
variable {dC : Nat → ClassId} {dI : Nat → Nat → Nat} {cI cV cW cL : ClassId} {wa sw : Nat} {ad aK aV : Nat → Nat} {sa : Nat → Nat} {a : Nat → Nat} {A : Nat → Nat → Nat} {b0 L i : Nat} {xs : Nat → Int32} {X : XS} {M : MS} {ou : Nat → Int64}
theorem hdL_setShelf : yL_setShelf.cls ≠ "java/lang/invoke/MethodHandle" ∧ yL_setShelf.cls ≠ "java/lang/invoke/VarHandle" ∧ (parseMethodDescriptor yL_setShelf.desc).map (fun d => d.parameters.length) = some 5 := by decide +kernel
theorem hdX6_setShelf : yX6_setShelf.cls = RX6 ∧ yX6_setShelf.cls ≠ "java/lang/invoke/MethodHandle" ∧ yX6_setShelf.cls ≠ "java/lang/invoke/VarHandle" ∧ (parseMethodDescriptor yX6_setShelf.desc).map (fun d => d.parameters.length) = some 3 := by decide +kernel
set_option maxHeartbeats 4000000 in
set_option maxRecDepth 100000 in
theorem LC_setShelf (C : LC0 p l s m args c b0 L xs dC dI cI cV cW cL wa sw ad aK aV sa) (hi : i + 3 < L) (hcl : cells + 3 ≤ 601024) (hsl : slots + 18 ≤ 7293034) (h : LST s dC dI cI cV cW cL a A X M ou H locs b0 i ls) (kk : ∀ (A : Nat → Nat → Nat) (X : XS) (M : MS) (ou : Nat → Int64) (H : Heap) (locs : List Loc) (ls : Array Slot), LST s dC dI cI cV cW cL a A X M ou H locs b0 i ls → W p l e room_1 s m args below meth c H locs (cells + 3) (slots + 18) Q (F0 m 1461 ls [])) : W p l e room_1 s m args below meth c H locs cells slots Q (F0 m 176 ls []) := by
  obtain ⟨hx, hb, hml, hown, hts, hX, hbl, hL, hK, hIm, hNw, hXm, hC3, hlt⟩ := C
  obtain ⟨hP, hD, hS, hI, hl⟩ := h
  obtain ⟨K, b, n, T⟩ := X
  obtain ⟨th, sm, ln, at_, wl, rm, q, ha, Rw⟩ := M
  have hV : RV (Rw 0) (K 6).1 (K 6).2.1 (K 6).2.2.1 ((K 6).2.2.2 0) ((K 6).2.2.2 1) ((K 6).2.2.2 2) ((K 6).2.2.2 3) ((K 6).2.2.2 4) ((K 6).2.2.2 5) ((K 6).2.2.2 6) ((K 6).2.2.2 7) := hI.1
  have hn6 : n ≤ 6 := hI.2.1
  have hsm : sm = n := hI.2.2.1
  have hsm6 : sm ≤ 6 := by omega
  have hSR : SR (Rw 2) K n := hI.2.2.2.1
  have hnn : T.1 ≤ 60 := hI.2.2.2.2.1
  have hln : ln = T.1 := hI.2.2.2.2.2.1
  have hln6 : ln ≤ 60 := by omega
  have hBu : Rw 3 = T.2.2.2.1 := hI.2.2.2.2.2.2
  have hA : ∀ q : Nat, s.heap.size ≤ q → Fr s q := fun _ h => h
  have hbA : ¬ Fr s b0 := Nat.not_le.mpr hbl
  refine lv_aload_n hx hb dL_law_176 rfl (lv_at hl 3 rfl) ?_
  refine n_arg (L := L) (i := i) (k := 1) hx hb hX hbl hbA hS (by omega) hL dL_law_177 dL_law_178 dL_law_180 dL_law_181 dL_law_182 (by decide) (lv_at hl 4 rfl) (lv_at hl 0 rfl) ?_
  refine n_arg (L := L) (i := i) (k := 2) hx hb hX hbl hbA hS (by omega) hL dL_law_183 dL_law_184 dL_law_186 dL_law_187 dL_law_188 (by decide) (lv_at hl 4 rfl) (lv_at hl 0 rfl) ?_
  refine n_arg (L := L) (i := i) (k := 3) hx hb hX hbl hbA hS (by omega) hL dL_law_189 dL_law_190 dL_law_192 dL_law_193 dL_law_194 (by decide) (lv_at hl 4 rfl) (lv_at hl 0 rfl) ?_
  refine lv_aload_n hx hb dL_law_195 rfl (lv_at hl 1 rfl) ?_
  have hFc := freeW hD hS hA
  refine va_calli (vx_runSW (hh := [(0, 12, 15, 13), (0, 12, 19, 15), (0, 12, 23, 17)]) (As := [.ref (a 0), .int (xs (i + 1)), .int (xs (i + 2)), .int (xs (i + 3)), .ref (a 14)]) (rest := []) ⟨hx, hb, hml, hown, hts⟩ (hL_setShelf l dC dI cI cV cW cL wa sw ad aK aV sa H.size a A hlt K b n T (th, sm, ln, at_, wl, rm, q, ha, Rw) ou (xs (i + 1)) (xs (i + 2)) (xs (i + 3)) hn6) (vx_cwSW 5 hts (gF2 gL_law_L_setShelf (by decide +kernel)) rfl rfl rfl hdL_setShelf ⟨Nat.le_of_ble_eq_true rfl, Nat.le_of_ble_eq_true rfl⟩) (pL_S (A := Fr s) hK (imW hIm hS hFc) hNw (hXm.at hS hFc) hC3 hP hD) rfl rfl hl.1 rfl (lv_room (Nat.le_of_ble_eq_true rfl)) dL_law_196 ⟨Nat.le_trans (by omega) hcl, Nat.le_trans (by omega) hsl⟩) hS (fun q _ h => hFc q h) hFc (fun r_1 u_ t_ H1 locs ht_ hvm_ hw1 hB_ hz_ hk_ hS => ?_)
  obtain ⟨hP1, hD1⟩ := hB_
  rw [ht_] at hP1
  have pl := PL_setShelf hI hw1
  have hP := hP1
  have hD := hD1.weaken (fun _ q _ h => hFc q.1 h)
  clear hP1 hD1 hFc hk_ hz_ hvm_ ht_ hw1
  generalize H1 = H at hP hS ⊢
  obtain ⟨A1, X1, ou1⟩ := u_
  refine lv_istore (lv' := [(5, .int r_1), (4, .int (nI i)), (3, .ref (a 14)), (2, .ref (a 8)), (1, .ref (a 0)), (0, .ref b0)]) hx hb dL_law_199 hl (by decide) rfl (fun ls hl => ?_)
  refine lv_aload_n hx hb dL_law_201 rfl (lv_at hl 3 rfl) ?_
  refine n_arg (L := L) (i := i) (k := 1) hx hb hX hbl hbA hS (by omega) hL dL_law_202 dL_law_203 dL_law_205 dL_law_206 dL_law_207 (by decide) (lv_at hl 5 rfl) (lv_at hl 1 rfl) ?_
  refine n_arg (L := L) (i := i) (k := 2) hx hb hX hbl hbA hS (by omega) hL dL_law_208 dL_law_209 dL_law_211 dL_law_212 dL_law_213 (by decide) (lv_at hl 5 rfl) (lv_at hl 1 rfl) ?_
  refine n_arg (L := L) (i := i) (k := 3) hx hb hX hbl hbA hS (by omega) hL dL_law_214 dL_law_215 dL_law_217 dL_law_218 dL_law_219 (by decide) (lv_at hl 5 rfl) (lv_at hl 1 rfl) ?_
  have hFc := freeW hD hS hA
  refine va_calli (va_runV (As := [.int (xs (i + 1)), .int (xs (i + 2)), .int (xs (i + 3))]) (rest := []) ⟨hx, hb, hml, hown, hts⟩ (aX6_setShelf l dC dI cI cV cW cL wa sw ad aK aV sa H.size a A1 X1 th sm ln at_ wl rm q ha Rw ou1 (K 6).1 (xs (i + 1)) (xs (i + 2)) (xs (i + 3)) hV.ro hsm6) (cwV 3 hts (gF2 gL_law_X6_setShelf (by decide +kernel)) rfl rfl rfl hdX6_setShelf ⟨Nat.le_of_ble_eq_true rfl, Nat.le_of_ble_eq_true rfl⟩) (pL_V (A := Fr s) hK (imW hIm hS hFc) hNw (hXm.at hS hFc) hC3 hP hD 80 4 rfl rfl rfl) rfl rfl hl.1 rfl (lv_room (Nat.le_of_ble_eq_true rfl)) dL_law_220 ⟨Nat.le_trans (by omega) hcl, Nat.le_trans (by omega) hsl⟩) hS (fun q _ h => hFc q h) hFc (fun r_2 u2_ t_ H1 locs ht_ hvm_ hw2 hB_ hz_ hk_ hS => ?_)
  obtain ⟨hP1, hD1⟩ := hB_
  rw [ht_] at hP1
  have hP := hP1
  have hD := hD1.weaken (fun _ q _ h => hFc q.1 h)
  clear hP1 hD1 hFc hk_ hz_ hvm_ ht_ u2_
  generalize H1 = H at hP hS ⊢
  refine lv_istore (lv' := [(6, .int r_2), (5, .int r_1), (4, .int (nI i)), (3, .ref (a 14)), (2, .ref (a 8)), (1, .ref (a 0)), (0, .ref b0)]) hx hb dL_law_223 hl (by decide) rfl (fun ls hl => ?_)
  refine lv_aload_n hx hb dL_law_225 rfl (lv_at hl 4 rfl) ?_
  have hFc := freeW hD hS hA
  refine va_calli (va_runV (As := []) (rest := []) ⟨hx, hb, hml, hown, hts⟩ (aX6_thrown l dC dI cI cV cW cL wa sw ad aK aV sa H.size a A1 X1 ((nI (cdSet (Rw 0) (K 6).1 (xs (i + 1)) (xs (i + 2)) (xs (i + 3))))) (if cdSet (Rw 0) (K 6).1 (xs (i + 1)) (xs (i + 2)) (xs (i + 3)) = 0 then svN sm else sm) (ln) (at_) (wl) (rm) (q) (ha) (mk5 (if cdSet (Rw 0) (K 6).1 (xs (i + 1)) (xs (i + 2)) (xs (i + 3)) = 0 then fSet (Rw 0) (ix (xs (i + 1))) (xs (i + 2)) (xs (i + 3)) else (Rw 0)) (Rw 1) (if cdSet (Rw 0) (K 6).1 (xs (i + 1)) (xs (i + 2)) (xs (i + 3)) = 0 then svV (Rw 0) (Rw 2) sm else (Rw 2)) (Rw 3) (Rw 4)) ou1) (cwV 0 hts (gF2 gL_law_X6_thrown (by decide +kernel)) rfl rfl rfl hdX6_thrown ⟨Nat.le_of_ble_eq_true rfl, Nat.le_of_ble_eq_true rfl⟩) (pL_V (A := Fr s) hK (imW hIm hS hFc) hNw (hXm.at hS hFc) hC3 hP hD 80 4 rfl rfl rfl) rfl rfl hl.1 rfl (lv_room (Nat.le_of_ble_eq_true rfl)) dL_law_226 ⟨Nat.le_trans (by omega) hcl, Nat.le_trans (by omega) hsl⟩) hS (fun q _ h => hFc q h) hFc (fun r_3 u3_ t_ H1 locs ht_ hvm_ hw3 hB_ hz_ hk_ hS => ?_)
  obtain ⟨hP1, hD1⟩ := hB_
  rw [ht_] at hP1
  have hP := hP1
  have hD := hD1.weaken (fun _ q _ h => hFc q.1 h)
  clear hP1 hD1 hFc hk_ hz_ hvm_ ht_ u3_
  generalize H1 = H at hP hS ⊢
  have fin : W p l e room_1 s m args below meth c H locs (cells + 2 + 0 + 0) (slots + 12 + 0 + 0) Q (F0 m 253 ls []) := by
    refine lv_goto (tgt := 1461) hx hb dL_law_253 (by decide) ?_
    refine W.widen (k := cells + 3) (n := slots + 18) (by omega) (by omega) ?_
    exact kk A1 X1 _ ou1 H locs ls ⟨hP, hD, hS, pl.2.2, lv_sub hl [2, 3, 4, 5, 6] rfl⟩
  refine lv_iload hx hb dL_law_229 (lv_at hl 1 rfl) ?_
  refine lv_icmp_eq (tgt := 236) hx hb dL_law_231 (by decide) (fun _ => ?_) (fun c9 => absurd (hw3.trans pl.1.symm) c9)
  refine lv_iload hx hb dL_law_236 (lv_at hl 1 rfl) ?_
  refine lv_if_ne (tgt := 253) hx hb dL_law_238 (by decide) (fun _ => fin) (fun c9 => ?_)
  refine lv_aload_n hx hb dL_law_241 rfl (lv_at hl 3 rfl) ?_
  refine lv_iconst (v := (nI 0)) hx hb dL_law_242 (by decide) ?_
  refine va_lald hx hb hK hP 86 3 rfl rfl (vp_in_nI (by decide) (by decide)) dL_law_243 ?_
  refine lv_iload hx hb dL_law_244 (lv_at hl 0 rfl) ?_
  refine lv_i2l (v := r_2.toInt64) hx hb dL_law_246 rfl ?_
  exact n_lcmp hx hb (by rw [nI_clamp (by decide), hw2]; exact pl.2.1 (c9.trans nI_0.symm)) dL_law_247 dL_law_248 (by decide) fin
theorem hdL_addRecord : yL_addRecord.cls ≠ "java/lang/invoke/MethodHandle" ∧ yL_addRecord.cls ≠ "java/lang/invoke/VarHandle" ∧ (parseMethodDescriptor yL_addRecord.desc).map (fun d => d.parameters.length) = some 4 := by decide +kernel
theorem hdX6_addRecord : yX6_addRecord.cls = RX6 ∧ yX6_addRecord.cls ≠ "java/lang/invoke/MethodHandle" ∧ yX6_addRecord.cls ≠ "java/lang/invoke/VarHandle" ∧ (parseMethodDescriptor yX6_addRecord.desc).map (fun d => d.parameters.length) = some 2 := by decide +kernel
set_option maxHeartbeats 4000000 in
set_option maxRecDepth 100000 in
theorem LC_addRecord (C : LC0 p l s m args c b0 L xs dC dI cI cV cW cL wa sw ad aK aV sa) (hi : i + 3 < L) (hcl : cells + 3 ≤ 601024) (hsl : slots + 18 ≤ 7293034) (h : LST s dC dI cI cV cW cL a A X M ou H locs b0 i ls) (kk : ∀ (A : Nat → Nat → Nat) (X : XS) (M : MS) (ou : Nat → Int64) (H : Heap) (locs : List Loc) (ls : Array Slot), LST s dC dI cI cV cW cL a A X M ou H locs b0 i ls → W p l e room_1 s m args below meth c H locs (cells + 3) (slots + 18) Q (F0 m 1461 ls [])) : W p l e room_1 s m args below meth c H locs cells slots Q (F0 m 256 ls []) := by
  obtain ⟨hx, hb, hml, hown, hts, hX, hbl, hL, hK, hIm, hNw, hXm, hC3, hlt⟩ := C
  obtain ⟨hP, hD, hS, hI, hl⟩ := h
  obtain ⟨K, b, n, T⟩ := X
  obtain ⟨th, sm, ln, at_, wl, rm, q, ha, Rw⟩ := M
  have hV : RV (Rw 0) (K 6).1 (K 6).2.1 (K 6).2.2.1 ((K 6).2.2.2 0) ((K 6).2.2.2 1) ((K 6).2.2.2 2) ((K 6).2.2.2 3) ((K 6).2.2.2 4) ((K 6).2.2.2 5) ((K 6).2.2.2 6) ((K 6).2.2.2 7) := hI.1
  have hn6 : n ≤ 6 := hI.2.1
  have hsm : sm = n := hI.2.2.1
  have hsm6 : sm ≤ 6 := by omega
  have hSR : SR (Rw 2) K n := hI.2.2.2.1
  have hnn : T.1 ≤ 60 := hI.2.2.2.2.1
  have hln : ln = T.1 := hI.2.2.2.2.2.1
  have hln6 : ln ≤ 60 := by omega
  have hBu : Rw 3 = T.2.2.2.1 := hI.2.2.2.2.2.2
  have hA : ∀ q : Nat, s.heap.size ≤ q → Fr s q := fun _ h => h
  have hbA : ¬ Fr s b0 := Nat.not_le.mpr hbl
  refine lv_aload_n hx hb dL_law_256 rfl (lv_at hl 3 rfl) ?_
  refine n_arg (L := L) (i := i) (k := 1) hx hb hX hbl hbA hS (by omega) hL dL_law_257 dL_law_258 dL_law_260 dL_law_261 dL_law_262 (by decide) (lv_at hl 4 rfl) (lv_at hl 0 rfl) ?_
  refine n_arg (L := L) (i := i) (k := 2) hx hb hX hbl hbA hS (by omega) hL dL_law_263 dL_law_264 dL_law_266 dL_law_267 dL_law_268 (by decide) (lv_at hl 4 rfl) (lv_at hl 0 rfl) ?_
  refine lv_aload_n hx hb dL_law_269 rfl (lv_at hl 1 rfl) ?_
  have hFc := freeW hD hS hA
  refine va_calli (vx_runSW (hh := [(0, 10, 13, 13), (0, 10, 17, 15), (0, 10, 21, 17)]) (As := [.ref (a 0), .int (xs (i + 1)), .int (xs (i + 2)), .ref (a 14)]) (rest := []) ⟨hx, hb, hml, hown, hts⟩ (hL_addRecord l dC dI cI cV cW cL wa sw ad aK aV sa H.size a A hlt K b n T (th, sm, ln, at_, wl, rm, q, ha, Rw) ou (xs (i + 1)) (xs (i + 2)) hV.hc hn6) (vx_cwSW 4 hts (gF2 gL_law_L_addRecord (by decide +kernel)) rfl rfl rfl hdL_addRecord ⟨Nat.le_of_ble_eq_true rfl, Nat.le_of_ble_eq_true rfl⟩) (pL_S (A := Fr s) hK (imW hIm hS hFc) hNw (hXm.at hS hFc) hC3 hP hD) rfl rfl hl.1 rfl (lv_room (Nat.le_of_ble_eq_true rfl)) dL_law_270 ⟨Nat.le_trans (by omega) hcl, Nat.le_trans (by omega) hsl⟩) hS (fun q _ h => hFc q h) hFc (fun r_1 u_ t_ H1 locs ht_ hvm_ hw1 hB_ hz_ hk_ hS => ?_)
  obtain ⟨hP1, hD1⟩ := hB_
  rw [ht_] at hP1
  have pl := PL_addRecord hI hw1
  have hP := hP1
  have hD := hD1.weaken (fun _ q _ h => hFc q.1 h)
  clear hP1 hD1 hFc hk_ hz_ hvm_ ht_ hw1
  generalize H1 = H at hP hS ⊢
  obtain ⟨A1, X1, ou1⟩ := u_
  refine lv_istore (lv' := [(5, .int r_1), (4, .int (nI i)), (3, .ref (a 14)), (2, .ref (a 8)), (1, .ref (a 0)), (0, .ref b0)]) hx hb dL_law_273 hl (by decide) rfl (fun ls hl => ?_)
  refine lv_aload_n hx hb dL_law_275 rfl (lv_at hl 3 rfl) ?_
  refine n_arg (L := L) (i := i) (k := 1) hx hb hX hbl hbA hS (by omega) hL dL_law_276 dL_law_277 dL_law_279 dL_law_280 dL_law_281 (by decide) (lv_at hl 5 rfl) (lv_at hl 1 rfl) ?_
  refine n_arg (L := L) (i := i) (k := 2) hx hb hX hbl hbA hS (by omega) hL dL_law_282 dL_law_283 dL_law_285 dL_law_286 dL_law_287 (by decide) (lv_at hl 5 rfl) (lv_at hl 1 rfl) ?_
  have hFc := freeW hD hS hA
  refine va_calli (va_runV (As := [.int (xs (i + 1)), .int (xs (i + 2))]) (rest := []) ⟨hx, hb, hml, hown, hts⟩ (aX6_addRecord l dC dI cI cV cW cL wa sw ad aK aV sa H.size a A1 X1 th sm ln at_ wl rm q ha Rw ou1 (K 6).1 (xs (i + 1)) (xs (i + 2)) hV.ro hsm6) (cwV 2 hts (gF2 gL_law_X6_addRecord (by decide +kernel)) rfl rfl rfl hdX6_addRecord ⟨Nat.le_of_ble_eq_true rfl, Nat.le_of_ble_eq_true rfl⟩) (pL_V (A := Fr s) hK (imW hIm hS hFc) hNw (hXm.at hS hFc) hC3 hP hD 80 4 rfl rfl rfl) rfl rfl hl.1 rfl (lv_room (Nat.le_of_ble_eq_true rfl)) dL_law_288 ⟨Nat.le_trans (by omega) hcl, Nat.le_trans (by omega) hsl⟩) hS (fun q _ h => hFc q h) hFc (fun r_2 u2_ t_ H1 locs ht_ hvm_ hw2 hB_ hz_ hk_ hS => ?_)
  obtain ⟨hP1, hD1⟩ := hB_
  rw [ht_] at hP1
  have hP := hP1
  have hD := hD1.weaken (fun _ q _ h => hFc q.1 h)
  clear hP1 hD1 hFc hk_ hz_ hvm_ ht_ u2_
  generalize H1 = H at hP hS ⊢
  refine lv_istore (lv' := [(6, .int r_2), (5, .int r_1), (4, .int (nI i)), (3, .ref (a 14)), (2, .ref (a 8)), (1, .ref (a 0)), (0, .ref b0)]) hx hb dL_law_291 hl (by decide) rfl (fun ls hl => ?_)
  refine lv_aload_n hx hb dL_law_293 rfl (lv_at hl 4 rfl) ?_
  have hFc := freeW hD hS hA
  refine va_calli (va_runV (As := []) (rest := []) ⟨hx, hb, hml, hown, hts⟩ (aX6_thrown l dC dI cI cV cW cL wa sw ad aK aV sa H.size a A1 X1 ((nI (cdAdd (Rw 0) (K 6).1 (xs (i + 1)) (xs (i + 2))))) (if cdAdd (Rw 0) (K 6).1 (xs (i + 1)) (xs (i + 2)) = 0 then svN sm else sm) (ln) (at_) (wl) (rm) (q) (ha) (mk5 (if cdAdd (Rw 0) (K 6).1 (xs (i + 1)) (xs (i + 2)) = 0 then fAdds (Rw 0) (K 6).1 (xs (i + 1)) (xs (i + 2)) else (Rw 0)) (Rw 1) (if cdAdd (Rw 0) (K 6).1 (xs (i + 1)) (xs (i + 2)) = 0 then svV (Rw 0) (Rw 2) sm else (Rw 2)) (Rw 3) (Rw 4)) ou1) (cwV 0 hts (gF2 gL_law_X6_thrown (by decide +kernel)) rfl rfl rfl hdX6_thrown ⟨Nat.le_of_ble_eq_true rfl, Nat.le_of_ble_eq_true rfl⟩) (pL_V (A := Fr s) hK (imW hIm hS hFc) hNw (hXm.at hS hFc) hC3 hP hD 80 4 rfl rfl rfl) rfl rfl hl.1 rfl (lv_room (Nat.le_of_ble_eq_true rfl)) dL_law_294 ⟨Nat.le_trans (by omega) hcl, Nat.le_trans (by omega) hsl⟩) hS (fun q _ h => hFc q h) hFc (fun r_3 u3_ t_ H1 locs ht_ hvm_ hw3 hB_ hz_ hk_ hS => ?_)
  obtain ⟨hP1, hD1⟩ := hB_
  rw [ht_] at hP1
  have hP := hP1
  have hD := hD1.weaken (fun _ q _ h => hFc q.1 h)
  clear hP1 hD1 hFc hk_ hz_ hvm_ ht_ u3_
  generalize H1 = H at hP hS ⊢
  have fin : W p l e room_1 s m args below meth c H locs (cells + 3 + 0 + 0) (slots + 18 + 0 + 0) Q (F0 m 321 ls []) := by
    refine lv_goto (tgt := 1461) hx hb dL_law_321 (by decide) ?_
    refine W.widen (k := cells + 3) (n := slots + 18) (by omega) (by omega) ?_
    exact kk A1 X1 _ ou1 H locs ls ⟨hP, hD, hS, pl.2.2, lv_sub hl [2, 3, 4, 5, 6] rfl⟩
  refine lv_iload hx hb dL_law_297 (lv_at hl 1 rfl) ?_
  refine lv_icmp_eq (tgt := 304) hx hb dL_law_299 (by decide) (fun _ => ?_) (fun c9 => absurd (hw3.trans pl.1.symm) c9)
  refine lv_iload hx hb dL_law_304 (lv_at hl 1 rfl) ?_
  refine lv_if_ne (tgt := 321) hx hb dL_law_306 (by decide) (fun _ => fin) (fun c9 => ?_)
  refine lv_aload_n hx hb dL_law_309 rfl (lv_at hl 3 rfl) ?_
  refine lv_iconst (v := (nI 0)) hx hb dL_law_310 (by decide) ?_
  refine va_lald hx hb hK hP 86 3 rfl rfl (vp_in_nI (by decide) (by decide)) dL_law_311 ?_
  refine lv_iload hx hb dL_law_312 (lv_at hl 0 rfl) ?_
  refine lv_i2l (v := r_2.toInt64) hx hb dL_law_314 rfl ?_
  exact n_lcmp hx hb (by rw [nI_clamp (by decide), hw2]; exact pl.2.1 (c9.trans nI_0.symm)) dL_law_315 dL_law_316 (by decide) fin
theorem hdL_removeRecord : yL_removeRecord.cls ≠ "java/lang/invoke/MethodHandle" ∧ yL_removeRecord.cls ≠ "java/lang/invoke/VarHandle" ∧ (parseMethodDescriptor yL_removeRecord.desc).map (fun d => d.parameters.length) = some 3 := by decide +kernel
theorem hdX6_removeRecord : yX6_removeRecord.cls = RX6 ∧ yX6_removeRecord.cls ≠ "java/lang/invoke/MethodHandle" ∧ yX6_removeRecord.cls ≠ "java/lang/invoke/VarHandle" ∧ (parseMethodDescriptor yX6_removeRecord.desc).map (fun d => d.parameters.length) = some 1 := by decide +kernel
set_option maxHeartbeats 4000000 in
set_option maxRecDepth 100000 in
theorem LC_removeRecord (C : LC0 p l s m args c b0 L xs dC dI cI cV cW cL wa sw ad aK aV sa) (hi : i + 3 < L) (hcl : cells + 3 ≤ 601024) (hsl : slots + 18 ≤ 7293034) (h : LST s dC dI cI cV cW cL a A X M ou H locs b0 i ls) (kk : ∀ (A : Nat → Nat → Nat) (X : XS) (M : MS) (ou : Nat → Int64) (H : Heap) (locs : List Loc) (ls : Array Slot), LST s dC dI cI cV cW cL a A X M ou H locs b0 i ls → W p l e room_1 s m args below meth c H locs (cells + 3) (slots + 18) Q (F0 m 1461 ls [])) : W p l e room_1 s m args below meth c H locs cells slots Q (F0 m 324 ls []) := by
  obtain ⟨hx, hb, hml, hown, hts, hX, hbl, hL, hK, hIm, hNw, hXm, hC3, hlt⟩ := C
  obtain ⟨hP, hD, hS, hI, hl⟩ := h
  obtain ⟨K, b, n, T⟩ := X
  obtain ⟨th, sm, ln, at_, wl, rm, q, ha, Rw⟩ := M
  have hV : RV (Rw 0) (K 6).1 (K 6).2.1 (K 6).2.2.1 ((K 6).2.2.2 0) ((K 6).2.2.2 1) ((K 6).2.2.2 2) ((K 6).2.2.2 3) ((K 6).2.2.2 4) ((K 6).2.2.2 5) ((K 6).2.2.2 6) ((K 6).2.2.2 7) := hI.1
  have hn6 : n ≤ 6 := hI.2.1
  have hsm : sm = n := hI.2.2.1
  have hsm6 : sm ≤ 6 := by omega
  have hSR : SR (Rw 2) K n := hI.2.2.2.1
  have hnn : T.1 ≤ 60 := hI.2.2.2.2.1
  have hln : ln = T.1 := hI.2.2.2.2.2.1
  have hln6 : ln ≤ 60 := by omega
  have hBu : Rw 3 = T.2.2.2.1 := hI.2.2.2.2.2.2
  have hA : ∀ q : Nat, s.heap.size ≤ q → Fr s q := fun _ h => h
  have hbA : ¬ Fr s b0 := Nat.not_le.mpr hbl
  refine lv_aload_n hx hb dL_law_324 rfl (lv_at hl 3 rfl) ?_
  refine n_arg (L := L) (i := i) (k := 1) hx hb hX hbl hbA hS (by omega) hL dL_law_325 dL_law_326 dL_law_328 dL_law_329 dL_law_330 (by decide) (lv_at hl 4 rfl) (lv_at hl 0 rfl) ?_
  refine lv_aload_n hx hb dL_law_331 rfl (lv_at hl 1 rfl) ?_
  have hFc := freeW hD hS hA
  refine va_calli (vx_runSW (hh := [(0, 9, 12, 13)]) (As := [.ref (a 0), .int (xs (i + 1)), .ref (a 14)]) (rest := []) ⟨hx, hb, hml, hown, hts⟩ (hL_removeRecord l dC dI cI cV cW cL wa sw ad aK aV sa H.size a A hlt K b n T (th, sm, ln, at_, wl, rm, q, ha, Rw) ou (xs (i + 1)) hV.vo hn6) (vx_cwSW 3 hts (gF2 gL_law_L_removeRecord (by decide +kernel)) rfl rfl rfl hdL_removeRecord ⟨Nat.le_of_ble_eq_true rfl, Nat.le_of_ble_eq_true rfl⟩) (pL_S (A := Fr s) hK (imW hIm hS hFc) hNw (hXm.at hS hFc) hC3 hP hD) rfl rfl hl.1 rfl (lv_room (Nat.le_of_ble_eq_true rfl)) dL_law_332 ⟨Nat.le_trans (by omega) hcl, Nat.le_trans (by omega) hsl⟩) hS (fun q _ h => hFc q h) hFc (fun r_1 u_ t_ H1 locs ht_ hvm_ hw1 hB_ hz_ hk_ hS => ?_)
  obtain ⟨hP1, hD1⟩ := hB_
  rw [ht_] at hP1
  have pl := PL_removeRecord hI hw1
  have hP := hP1
  have hD := hD1.weaken (fun _ q _ h => hFc q.1 h)
  clear hP1 hD1 hFc hk_ hz_ hvm_ ht_ hw1
  generalize H1 = H at hP hS ⊢
  obtain ⟨A1, X1, ou1⟩ := u_
  refine lv_istore (lv' := [(5, .int r_1), (4, .int (nI i)), (3, .ref (a 14)), (2, .ref (a 8)), (1, .ref (a 0)), (0, .ref b0)]) hx hb dL_law_335 hl (by decide) rfl (fun ls hl => ?_)
  refine lv_aload_n hx hb dL_law_337 rfl (lv_at hl 3 rfl) ?_
  refine n_arg (L := L) (i := i) (k := 1) hx hb hX hbl hbA hS (by omega) hL dL_law_338 dL_law_339 dL_law_341 dL_law_342 dL_law_343 (by decide) (lv_at hl 5 rfl) (lv_at hl 1 rfl) ?_
  have hFc := freeW hD hS hA
  refine va_calli (va_runV (As := [.int (xs (i + 1))]) (rest := []) ⟨hx, hb, hml, hown, hts⟩ (aX6_removeRecord l dC dI cI cV cW cL wa sw ad aK aV sa H.size a A1 X1 th sm ln at_ wl rm q ha Rw ou1 (K 6).1 (xs (i + 1)) hV.ro hsm6) (cwV 1 hts (gF2 gL_law_X6_removeRecord (by decide +kernel)) rfl rfl rfl hdX6_removeRecord ⟨Nat.le_of_ble_eq_true rfl, Nat.le_of_ble_eq_true rfl⟩) (pL_V (A := Fr s) hK (imW hIm hS hFc) hNw (hXm.at hS hFc) hC3 hP hD 80 4 rfl rfl rfl) rfl rfl hl.1 rfl (lv_room (Nat.le_of_ble_eq_true rfl)) dL_law_344 ⟨Nat.le_trans (by omega) hcl, Nat.le_trans (by omega) hsl⟩) hS (fun q _ h => hFc q h) hFc (fun r_2 u2_ t_ H1 locs ht_ hvm_ hw2 hB_ hz_ hk_ hS => ?_)
  obtain ⟨hP1, hD1⟩ := hB_
  rw [ht_] at hP1
  have hP := hP1
  have hD := hD1.weaken (fun _ q _ h => hFc q.1 h)
  clear hP1 hD1 hFc hk_ hz_ hvm_ ht_ u2_
  generalize H1 = H at hP hS ⊢
  refine lv_istore (lv' := [(6, .int r_2), (5, .int r_1), (4, .int (nI i)), (3, .ref (a 14)), (2, .ref (a 8)), (1, .ref (a 0)), (0, .ref b0)]) hx hb dL_law_347 hl (by decide) rfl (fun ls hl => ?_)
  refine lv_aload_n hx hb dL_law_349 rfl (lv_at hl 4 rfl) ?_
  have hFc := freeW hD hS hA
  refine va_calli (va_runV (As := []) (rest := []) ⟨hx, hb, hml, hown, hts⟩ (aX6_thrown l dC dI cI cV cW cL wa sw ad aK aV sa H.size a A1 X1 ((nI (if sIn (xs (i + 1)) 0 ((Rw 0) 0 - 1) = true then 0 else 1))) (if sIn (xs (i + 1)) 0 ((Rw 0) 0 - 1) = true then svN sm else sm) (ln) (at_) (wl) (rm) (q) (ha) (mk5 (if sIn (xs (i + 1)) 0 ((Rw 0) 0 - 1) = true then fRem (Rw 0) (K 6).1 (ix (xs (i + 1))) else (Rw 0)) (Rw 1) (if sIn (xs (i + 1)) 0 ((Rw 0) 0 - 1) = true then svV (Rw 0) (Rw 2) sm else (Rw 2)) (Rw 3) (Rw 4)) ou1) (cwV 0 hts (gF2 gL_law_X6_thrown (by decide +kernel)) rfl rfl rfl hdX6_thrown ⟨Nat.le_of_ble_eq_true rfl, Nat.le_of_ble_eq_true rfl⟩) (pL_V (A := Fr s) hK (imW hIm hS hFc) hNw (hXm.at hS hFc) hC3 hP hD 80 4 rfl rfl rfl) rfl rfl hl.1 rfl (lv_room (Nat.le_of_ble_eq_true rfl)) dL_law_350 ⟨Nat.le_trans (by omega) hcl, Nat.le_trans (by omega) hsl⟩) hS (fun q _ h => hFc q h) hFc (fun r_3 u3_ t_ H1 locs ht_ hvm_ hw3 hB_ hz_ hk_ hS => ?_)
  obtain ⟨hP1, hD1⟩ := hB_
  rw [ht_] at hP1
  have hP := hP1
  have hD := hD1.weaken (fun _ q _ h => hFc q.1 h)
  clear hP1 hD1 hFc hk_ hz_ hvm_ ht_ u3_
  generalize H1 = H at hP hS ⊢
  have fin : W p l e room_1 s m args below meth c H locs (cells + 1 + 0 + 0) (slots + 6 + 0 + 0) Q (F0 m 377 ls []) := by
    refine lv_goto (tgt := 1461) hx hb dL_law_377 (by decide) ?_
    refine W.widen (k := cells + 3) (n := slots + 18) (by omega) (by omega) ?_
    exact kk A1 X1 _ ou1 H locs ls ⟨hP, hD, hS, pl.2.2, lv_sub hl [2, 3, 4, 5, 6] rfl⟩
  refine lv_iload hx hb dL_law_353 (lv_at hl 1 rfl) ?_
  refine lv_icmp_eq (tgt := 360) hx hb dL_law_355 (by decide) (fun _ => ?_) (fun c9 => absurd (hw3.trans pl.1.symm) c9)
  refine lv_iload hx hb dL_law_360 (lv_at hl 1 rfl) ?_
  refine lv_if_ne (tgt := 377) hx hb dL_law_362 (by decide) (fun _ => fin) (fun c9 => ?_)
  refine lv_aload_n hx hb dL_law_365 rfl (lv_at hl 3 rfl) ?_
  refine lv_iconst (v := (nI 0)) hx hb dL_law_366 (by decide) ?_
  refine va_lald hx hb hK hP 86 3 rfl rfl (vp_in_nI (by decide) (by decide)) dL_law_367 ?_
  refine lv_iload hx hb dL_law_368 (lv_at hl 0 rfl) ?_
  refine lv_i2l (v := r_2.toInt64) hx hb dL_law_370 rfl ?_
  exact n_lcmp hx hb (by rw [nI_clamp (by decide), hw2]; exact pl.2.1 (c9.trans nI_0.symm)) dL_law_371 dL_law_372 (by decide) fin
-- hdX5_records stands above
theorem hdX6_records : yX6_records.cls = RX6 ∧ yX6_records.cls ≠ "java/lang/invoke/MethodHandle" ∧ yX6_records.cls ≠ "java/lang/invoke/VarHandle" ∧ (parseMethodDescriptor yX6_records.desc).map (fun d => d.parameters.length) = some 0 := by decide +kernel
set_option maxHeartbeats 4000000 in
set_option maxRecDepth 100000 in
theorem LC_records (C : LC0 p l s m args c b0 L xs dC dI cI cV cW cL wa sw ad aK aV sa) (hi : i + 3 < L) (hcl : cells + 3 ≤ 601024) (hsl : slots + 18 ≤ 7293034) (h : LST s dC dI cI cV cW cL a A X M ou H locs b0 i ls) (kk : ∀ (A : Nat → Nat → Nat) (X : XS) (M : MS) (ou : Nat → Int64) (H : Heap) (locs : List Loc) (ls : Array Slot), LST s dC dI cI cV cW cL a A X M ou H locs b0 i ls → W p l e room_1 s m args below meth c H locs (cells + 3) (slots + 18) Q (F0 m 1461 ls [])) : W p l e room_1 s m args below meth c H locs cells slots Q (F0 m 380 ls []) := by
  obtain ⟨hx, hb, hml, hown, hts, hX, hbl, hL, hK, hIm, hNw, hXm, hC3, hlt⟩ := C
  obtain ⟨hP, hD, hS, hI, hl⟩ := h
  obtain ⟨K, b, n, T⟩ := X
  obtain ⟨th, sm, ln, at_, wl, rm, q, ha, Rw⟩ := M
  have hV : RV (Rw 0) (K 6).1 (K 6).2.1 (K 6).2.2.1 ((K 6).2.2.2 0) ((K 6).2.2.2 1) ((K 6).2.2.2 2) ((K 6).2.2.2 3) ((K 6).2.2.2 4) ((K 6).2.2.2 5) ((K 6).2.2.2 6) ((K 6).2.2.2 7) := hI.1
  have hn6 : n ≤ 6 := hI.2.1
  have hsm : sm = n := hI.2.2.1
  have hsm6 : sm ≤ 6 := by omega
  have hSR : SR (Rw 2) K n := hI.2.2.2.1
  have hnn : T.1 ≤ 60 := hI.2.2.2.2.1
  have hln : ln = T.1 := hI.2.2.2.2.2.1
  have hln6 : ln ≤ 60 := by omega
  have hBu : Rw 3 = T.2.2.2.1 := hI.2.2.2.2.2.2
  have hA : ∀ q : Nat, s.heap.size ≤ q → Fr s q := fun _ h => h
  have hbA : ¬ Fr s b0 := Nat.not_le.mpr hbl
  refine lv_aload_n hx hb dL_law_380 rfl (lv_at hl 3 rfl) ?_
  have hFc := freeW hD hS hA
  refine va_calli (va_runV (As := []) (rest := []) ⟨hx, hb, hml, hown, hts⟩ (aX5_records l dC dI cI cV cW cL wa sw ad aK aV sa H.size a A K b n T (th, sm, ln, at_, wl, rm, q, ha, Rw) ou ) (cwV 0 hts (gF2 gL_law_X5_records (by decide +kernel)) rfl rfl rfl hdX5_records ⟨Nat.le_of_ble_eq_true rfl, Nat.le_of_ble_eq_true rfl⟩) (pL_V (A := Fr s) hK (imW hIm hS hFc) hNw (hXm.at hS hFc) hC3 hP hD 0 3 rfl rfl rfl) rfl rfl hl.1 rfl (lv_room (Nat.le_of_ble_eq_true rfl)) dL_law_381 ⟨Nat.le_trans (by omega) hcl, Nat.le_trans (by omega) hsl⟩) hS (fun q _ h => hFc q h) hFc (fun r_1 u_ t_ H1 locs ht_ hvm_ hw1 hB_ hz_ hk_ hS => ?_)
  obtain ⟨hP1, hD1⟩ := hB_
  rw [ht_] at hP1
  have hP := hP1
  have hD := hD1.weaken (fun _ q _ h => hFc q.1 h)
  clear hP1 hD1 hFc hk_ hz_ hvm_ ht_ u_
  generalize H1 = H at hP hS ⊢
  refine lv_aload_n hx hb dL_law_384 rfl (lv_at hl 2 rfl) ?_
  have hFc := freeW hD hS hA
  refine va_calli (va_runV (As := []) (rest := [.int r_1]) ⟨hx, hb, hml, hown, hts⟩ (aX6_records l dC dI cI cV cW cL wa sw ad aK aV sa H.size a A (K, b, n, T) th sm ln at_ wl rm q ha Rw ou  ) (cwV 0 hts (gF2 gL_law_X6_records (by decide +kernel)) rfl rfl rfl hdX6_records ⟨Nat.le_of_ble_eq_true rfl, Nat.le_of_ble_eq_true rfl⟩) (pL_V (A := Fr s) hK (imW hIm hS hFc) hNw (hXm.at hS hFc) hC3 hP hD 80 4 rfl rfl rfl) rfl rfl hl.1 rfl (lv_room (Nat.le_of_ble_eq_true rfl)) dL_law_385 ⟨Nat.le_trans (by omega) hcl, Nat.le_trans (by omega) hsl⟩) hS (fun q _ h => hFc q h) hFc (fun r_2 u2_ t_ H1 locs ht_ hvm_ hw2 hB_ hz_ hk_ hS => ?_)
  obtain ⟨hP1, hD1⟩ := hB_
  rw [ht_] at hP1
  have hP := hP1
  have hD := hD1.weaken (fun _ q _ h => hFc q.1 h)
  clear hP1 hD1 hFc hk_ hz_ hvm_ ht_ u2_
  generalize H1 = H at hP hS ⊢
  have hv : r_1 = r_2 := hw1.trans (hV.s0.symm.trans hw2.symm)
  refine lv_icmp_eq (tgt := 1461) hx hb dL_law_388 (by decide) (fun _ => ?_) (fun q => absurd hv q)
  refine W.widen (k := cells + 3) (n := slots + 18) (by omega) (by omega) ?_
  exact kk A (K, b, n, T) ((nI 0), sm, ln, at_, wl, rm, q, ha, Rw) ou H locs ls ⟨hP, hD, hS, hI, hl⟩
theorem hdX5_month : yX5_month.cls = RX5 ∧ yX5_month.cls ≠ "java/lang/invoke/MethodHandle" ∧ yX5_month.cls ≠ "java/lang/invoke/VarHandle" ∧ (parseMethodDescriptor yX5_month.desc).map (fun d => d.parameters.length) = some 0 := by decide +kernel
theorem hdX6_month : yX6_month.cls = RX6 ∧ yX6_month.cls ≠ "java/lang/invoke/MethodHandle" ∧ yX6_month.cls ≠ "java/lang/invoke/VarHandle" ∧ (parseMethodDescriptor yX6_month.desc).map (fun d => d.parameters.length) = some 0 := by decide +kernel
set_option maxHeartbeats 4000000 in
set_option maxRecDepth 100000 in
theorem LC_month (C : LC0 p l s m args c b0 L xs dC dI cI cV cW cL wa sw ad aK aV sa) (hi : i + 3 < L) (hcl : cells + 3 ≤ 601024) (hsl : slots + 18 ≤ 7293034) (h : LST s dC dI cI cV cW cL a A X M ou H locs b0 i ls) (kk : ∀ (A : Nat → Nat → Nat) (X : XS) (M : MS) (ou : Nat → Int64) (H : Heap) (locs : List Loc) (ls : Array Slot), LST s dC dI cI cV cW cL a A X M ou H locs b0 i ls → W p l e room_1 s m args below meth c H locs (cells + 3) (slots + 18) Q (F0 m 1461 ls [])) : W p l e room_1 s m args below meth c H locs cells slots Q (F0 m 853 ls []) := by
  obtain ⟨hx, hb, hml, hown, hts, hX, hbl, hL, hK, hIm, hNw, hXm, hC3, hlt⟩ := C
  obtain ⟨hP, hD, hS, hI, hl⟩ := h
  obtain ⟨K, b, n, T⟩ := X
  obtain ⟨th, sm, ln, at_, wl, rm, q, ha, Rw⟩ := M
  have hV : RV (Rw 0) (K 6).1 (K 6).2.1 (K 6).2.2.1 ((K 6).2.2.2 0) ((K 6).2.2.2 1) ((K 6).2.2.2 2) ((K 6).2.2.2 3) ((K 6).2.2.2 4) ((K 6).2.2.2 5) ((K 6).2.2.2 6) ((K 6).2.2.2 7) := hI.1
  have hn6 : n ≤ 6 := hI.2.1
  have hsm : sm = n := hI.2.2.1
  have hsm6 : sm ≤ 6 := by omega
  have hSR : SR (Rw 2) K n := hI.2.2.2.1
  have hnn : T.1 ≤ 60 := hI.2.2.2.2.1
  have hln : ln = T.1 := hI.2.2.2.2.2.1
  have hln6 : ln ≤ 60 := by omega
  have hBu : Rw 3 = T.2.2.2.1 := hI.2.2.2.2.2.2
  have hA : ∀ q : Nat, s.heap.size ≤ q → Fr s q := fun _ h => h
  have hbA : ¬ Fr s b0 := Nat.not_le.mpr hbl
  refine lv_aload_n hx hb dL_law_853 rfl (lv_at hl 3 rfl) ?_
  have hFc := freeW hD hS hA
  refine va_calli (va_runV (As := []) (rest := []) ⟨hx, hb, hml, hown, hts⟩ (aX5_month l dC dI cI cV cW cL wa sw ad aK aV sa H.size a A K b n T (th, sm, ln, at_, wl, rm, q, ha, Rw) ou hV.hc hn6) (cwV 0 hts (gF2 gL_law_X5_month (by decide +kernel)) rfl rfl rfl hdX5_month ⟨Nat.le_of_ble_eq_true rfl, Nat.le_of_ble_eq_true rfl⟩) (pL_V (A := Fr s) hK (imW hIm hS hFc) hNw (hXm.at hS hFc) hC3 hP hD 0 3 rfl rfl rfl) rfl rfl hl.1 rfl (lv_room (Nat.le_of_ble_eq_true rfl)) dL_law_854 ⟨Nat.le_trans (by omega) hcl, Nat.le_trans (by omega) hsl⟩) hS (fun q _ h => hFc q h) hFc (fun r_1 u_ t_ H1 locs ht_ hvm_ hw1 hB_ hz_ hk_ hS => ?_)
  obtain ⟨hP1, hD1⟩ := hB_
  rw [ht_] at hP1
  have hP := hP1
  have hD := hD1.weaken (fun _ q _ h => hFc q.1 h)
  clear hP1 hD1 hFc hk_ hz_ hvm_ ht_ u_
  generalize H1 = H at hP hS ⊢
  refine lv_aload_n hx hb dL_law_857 rfl (lv_at hl 2 rfl) ?_
  have hFc := freeW hD hS hA
  refine va_calli (va_runV (As := []) (rest := [.int r_1]) ⟨hx, hb, hml, hown, hts⟩ (aX6_month l dC dI cI cV cW cL wa sw ad aK aV sa H.size a (svA n A) (setK (svK n K) 6 (((K 6).1), ((K 6).2.1), ((K 6).2.2.1), mk8 ((K 6).2.2.2 0) ((K 6).2.2.2 1) ((K 6).2.2.2 2) ((K 6).2.2.2 3) ((K 6).2.2.2 4) ((K 6).2.2.2 5) (cMnN ((K 6).2.2.2 6) ((K 6).1)) (cMnO ((K 6).2.2.2 6) ((K 6).2.2.2 7) ((K 6).1))), b, svN n, T) th sm ln at_ wl rm q ha Rw ou (K 6).1 hV.ro hsm6) (cwV 0 hts (gF2 gL_law_X6_month (by decide +kernel)) rfl rfl rfl hdX6_month ⟨Nat.le_of_ble_eq_true rfl, Nat.le_of_ble_eq_true rfl⟩) (pL_V (A := Fr s) hK (imW hIm hS hFc) hNw (hXm.at hS hFc) hC3 hP hD 80 4 rfl rfl rfl) rfl rfl hl.1 rfl (lv_room (Nat.le_of_ble_eq_true rfl)) dL_law_858 ⟨Nat.le_trans (by omega) hcl, Nat.le_trans (by omega) hsl⟩) hS (fun q _ h => hFc q h) hFc (fun r_2 u2_ t_ H1 locs ht_ hvm_ hw2 hB_ hz_ hk_ hS => ?_)
  obtain ⟨hP1, hD1⟩ := hB_
  rw [ht_] at hP1
  have hP := hP1
  have hD := hD1.weaken (fun _ q _ h => hFc q.1 h)
  clear hP1 hD1 hFc hk_ hz_ hvm_ ht_ u2_
  generalize H1 = H at hP hS ⊢
  have hv : r_1 = r_2 := hw1.trans ((hV.bg _ (Nat.le_refl _)).trans hw2.symm)
  refine lv_icmp_eq (tgt := 1461) hx hb dL_law_861 (by decide) (fun _ => ?_) (fun q => absurd hv q)
  refine W.widen (k := cells + 3) (n := slots + 18) (by omega) (by omega) ?_
  exact kk (svA n A) (setK (svK n K) 6 (((K 6).1), ((K 6).2.1), ((K 6).2.2.1), mk8 ((K 6).2.2.2 0) ((K 6).2.2.2 1) ((K 6).2.2.2 2) ((K 6).2.2.2 3) ((K 6).2.2.2 4) ((K 6).2.2.2 5) (cMnN ((K 6).2.2.2 6) ((K 6).1)) (cMnO ((K 6).2.2.2 6) ((K 6).2.2.2 7) ((K 6).1))), b, svN n, T) ((nI 0), svN sm, ln, at_, wl, rm, q, ha, mk5 (fMon (Rw 0) (K 6).1) (Rw 1) (svV (Rw 0) (Rw 2) sm) (Rw 3) (Rw 4)) ou H locs ls ⟨hP, hD, hS, ⟨hV.mon _ (Nat.le_refl _), svN_le hn6, by show svN sm = svN n; rw [hsm], (by rw [hsm]; exact (SR.save hn6 hSR hI.1).set6 (svN_le hn6) (Nat.le_refl _) (Nat.le_refl _)), hnn, hln, hBu⟩, hl⟩
theorem hdX5_fullness : yX5_fullness.cls = RX5 ∧ yX5_fullness.cls ≠ "java/lang/invoke/MethodHandle" ∧ yX5_fullness.cls ≠ "java/lang/invoke/VarHandle" ∧ (parseMethodDescriptor yX5_fullness.desc).map (fun d => d.parameters.length) = some 0 := by decide +kernel
theorem hdX6_fullness : yX6_fullness.cls = RX6 ∧ yX6_fullness.cls ≠ "java/lang/invoke/MethodHandle" ∧ yX6_fullness.cls ≠ "java/lang/invoke/VarHandle" ∧ (parseMethodDescriptor yX6_fullness.desc).map (fun d => d.parameters.length) = some 0 := by decide +kernel
set_option maxHeartbeats 4000000 in
set_option maxRecDepth 100000 in
theorem LC_fullness (C : LC0 p l s m args c b0 L xs dC dI cI cV cW cL wa sw ad aK aV sa) (hi : i + 3 < L) (hcl : cells + 3 ≤ 601024) (hsl : slots + 18 ≤ 7293034) (h : LST s dC dI cI cV cW cL a A X M ou H locs b0 i ls) (kk : ∀ (A : Nat → Nat → Nat) (X : XS) (M : MS) (ou : Nat → Int64) (H : Heap) (locs : List Loc) (ls : Array Slot), LST s dC dI cI cV cW cL a A X M ou H locs b0 i ls → W p l e room_1 s m args below meth c H locs (cells + 3) (slots + 18) Q (F0 m 1461 ls [])) : W p l e room_1 s m args below meth c H locs cells slots Q (F0 m 1223 ls []) := by
  obtain ⟨hx, hb, hml, hown, hts, hX, hbl, hL, hK, hIm, hNw, hXm, hC3, hlt⟩ := C
  obtain ⟨hP, hD, hS, hI, hl⟩ := h
  obtain ⟨K, b, n, T⟩ := X
  obtain ⟨th, sm, ln, at_, wl, rm, q, ha, Rw⟩ := M
  have hV : RV (Rw 0) (K 6).1 (K 6).2.1 (K 6).2.2.1 ((K 6).2.2.2 0) ((K 6).2.2.2 1) ((K 6).2.2.2 2) ((K 6).2.2.2 3) ((K 6).2.2.2 4) ((K 6).2.2.2 5) ((K 6).2.2.2 6) ((K 6).2.2.2 7) := hI.1
  have hn6 : n ≤ 6 := hI.2.1
  have hsm : sm = n := hI.2.2.1
  have hsm6 : sm ≤ 6 := by omega
  have hSR : SR (Rw 2) K n := hI.2.2.2.1
  have hnn : T.1 ≤ 60 := hI.2.2.2.2.1
  have hln : ln = T.1 := hI.2.2.2.2.2.1
  have hln6 : ln ≤ 60 := by omega
  have hBu : Rw 3 = T.2.2.2.1 := hI.2.2.2.2.2.2
  have hA : ∀ q : Nat, s.heap.size ≤ q → Fr s q := fun _ h => h
  have hbA : ¬ Fr s b0 := Nat.not_le.mpr hbl
  have hfu := hV.full
  have h5_hne := n64_of hfu.1
  have h5_hro := hfu.2.2.2
  have h6_hne := n64_of hfu.1
  rw [hfu.2.1, hfu.2.2.1] at h6_hne
  refine lv_aload_n hx hb dL_law_1223 rfl (lv_at hl 3 rfl) ?_
  have hFc := freeW hD hS hA
  refine va_calld (va_runV (As := []) (rest := []) ⟨hx, hb, hml, hown, hts⟩ (aX5_fullness l dC dI cI cV cW cL wa sw ad aK aV sa H.size a A K b n T (th, sm, ln, at_, wl, rm, q, ha, Rw) ou h5_hne h5_hro) (cwV 0 hts (gF2 gL_law_X5_fullness (by decide +kernel)) rfl rfl rfl hdX5_fullness ⟨Nat.le_of_ble_eq_true rfl, Nat.le_of_ble_eq_true rfl⟩) (pL_V (A := Fr s) hK (imW hIm hS hFc) hNw (hXm.at hS hFc) hC3 hP hD 0 3 rfl rfl rfl) rfl rfl hl.1 rfl (lv_room (Nat.le_of_ble_eq_true rfl)) dL_law_1224 ⟨Nat.le_trans (by omega) hcl, Nat.le_trans (by omega) hsl⟩) hS (fun q _ h => hFc q h) hFc (fun r_1 u_ t_ H1 locs ht_ hvm_ hw1 hB_ hz_ hk_ hS => ?_)
  obtain ⟨hP1, hD1⟩ := hB_
  rw [ht_] at hP1
  have hP := hP1
  have hD := hD1.weaken (fun _ q _ h => hFc q.1 h)
  clear hP1 hD1 hFc hk_ hz_ hvm_ ht_ u_
  generalize H1 = H at hP hS ⊢
  refine lv_dstore (lv' := [(5, .double r_1), (4, .int (nI i)), (3, .ref (a 14)), (2, .ref (a 8)), (1, .ref (a 0)), (0, .ref b0)]) hx hb dL_law_1227 hl (by decide) rfl (fun ls hl => ?_)
  refine lv_aload_n hx hb dL_law_1229 rfl (lv_at hl 3 rfl) ?_
  have hFc := freeW hD hS hA
  refine va_calld (va_runV (As := []) (rest := []) ⟨hx, hb, hml, hown, hts⟩ (aX6_fullness l dC dI cI cV cW cL wa sw ad aK aV sa H.size a A (K, b, n, T) th sm ln at_ wl rm q ha Rw ou (K 6).1 hV.ro h6_hne) (cwV 0 hts (gF2 gL_law_X6_fullness (by decide +kernel)) rfl rfl rfl hdX6_fullness ⟨Nat.le_of_ble_eq_true rfl, Nat.le_of_ble_eq_true rfl⟩) (pL_V (A := Fr s) hK (imW hIm hS hFc) hNw (hXm.at hS hFc) hC3 hP hD 80 4 rfl rfl rfl) rfl rfl hl.1 rfl (lv_room (Nat.le_of_ble_eq_true rfl)) dL_law_1230 ⟨Nat.le_trans (by omega) hcl, Nat.le_trans (by omega) hsl⟩) hS (fun q _ h => hFc q h) hFc (fun r_2 u2_ t_ H1 locs ht_ hvm_ hw2 hB_ hz_ hk_ hS => ?_)
  obtain ⟨hP1, hD1⟩ := hB_
  rw [ht_] at hP1
  have hP := hP1
  have hD := hD1.weaken (fun _ q _ h => hFc q.1 h)
  clear hP1 hD1 hFc hk_ hz_ hvm_ ht_ u2_
  generalize H1 = H at hP hS ⊢
  refine lv_dstore (lv' := [(7, .double r_2), (5, .double r_1), (4, .int (nI i)), (3, .ref (a 14)), (2, .ref (a 8)), (1, .ref (a 0)), (0, .ref b0)]) hx hb dL_law_1233 hl (by decide) rfl (fun ls hl => ?_)
  have he : r_1 = r_2 := by rw [hw1, hw2, hfu.2.1, hfu.2.2.1]
  have hsf : FP.dcmp r_1 r_2 = some .eq := by rw [← he, hw1]; exact dcmp_self hfu.1
  refine lv_dload hx hb dL_law_1235 (lv_at hl 1 rfl) ?_
  refine lv_dload hx hb dL_law_1237 (lv_at hl 0 rfl) ?_
  refine lv_dcmp hx hb dL_law_1239 ?_
  rw [hsf]
  refine lv_if_eq (tgt := 1261) hx hb dL_law_1240 (by decide) (fun _ => ?_) (fun q => absurd (by decide) q)
  refine lv_goto (tgt := 1461) hx hb dL_law_1261 (by decide) ?_
  refine W.widen (k := cells + 3) (n := slots + 18) (by omega) (by omega) ?_
  exact kk A (K, b, n, T) ((nI 0), sm, ln, at_, wl, rm, q, ha, Rw) ou H locs ls ⟨hP, hD, hS, hI, lv_sub hl [2, 3, 4, 5, 6] rfl⟩
end LAWCASES1
