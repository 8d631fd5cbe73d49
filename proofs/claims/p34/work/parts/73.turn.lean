section LAWTURN
variable {p : Program} {l : Launch} {e : Env} {s : State} {m : MethodId} {args : Array Value} {below : List Frame} {meth : Method} {c : Code} {Q : State → Prop}
variable {dC : Nat → ClassId} {dI : Nat → Nat → Nat} {cI cV cW : ClassId} {a : Nat → Nat} {A : Nat → Nat → Nat} {b0 L t : Nat} {xs : Nat → Int32}
set_option maxHeartbeats 4000000 in
set_option maxRecDepth 100000 in
theorem seg198 (C : LC0 p l s m args c b0 L xs dC dI cI cV cW) {Bd : Nat} (ht : t < 36) (z : Int32) (kk : ∀ (X : XS) (H : Heap) (locs : List Loc) (ls : Array Slot), LSt s dC dI cI cV cW a A X H locs → GI Bd X → lv_has ls 12 [(0, .ref b0), (1, .ref (a 0)), (2, .ref (a 8)), (3, .int (nI (t + 1)))] → W p l e room_1 s m args below meth c H locs 600130 7301080 Q (F0 m 15 ls [])) : ∀ (X : XS) (H : Heap) (locs : List Loc) (ls : Array Slot), LSt s dC dI cI cV cW a A X H locs → GI Bd X → lv_has ls 12 [(0, .ref b0), (1, .ref (a 0)), (2, .ref (a 8)), (3, .int (nI t)), (5, .int z)] → W p l e room_1 s m args below meth c H locs 600130 7301080 Q (F0 m 198 ls []) := by
  obtain ⟨hx, hb, hml, hown, hts, hX, hbl, hL, hK⟩ := id C
  have hbA : ¬ Fr s b0 := Nat.not_le.mpr hbl
  have hA : ∀ q : Nat, s.heap.size ≤ q → Fr s q := fun _ h => h
  intro X H locs ls hLS hG hl0
  obtain ⟨hP, hD, hS⟩ := hLS
  have hl := hl0
  have hn : X.2.2.1 ≤ 6 := hG.1
  have hc : (X.1 6).1 ≤ 16 := IV.hc hG.2.1
  refine lv_aload_n hx hb dL_law_198 rfl (lv_at hl 1 rfl) ?_
  have hFc := freeW hD hS hA
  refine va_calli (va_runS (As := [.ref (a 0)]) (rest := []) ⟨hx, hb, hml, hown, hts⟩ (mX_holds l dC dI cI cV cW H.size a A X _ hG.2.1) (va_cwS 1 hts gL_law_L_holds rfl rfl rfl hdL_holds ⟨Nat.le_of_ble_eq_true rfl, Nat.le_of_ble_eq_true rfl⟩) (pW_S hK hP hD) rfl rfl hl.1 rfl (lv_room (Nat.le_of_ble_eq_true rfl)) dL_law_199 ⟨Nat.le_of_ble_eq_true rfl, Nat.le_of_ble_eq_true rfl⟩) hS (fun q _ h => hFc q h) hFc (fun r_199 X1 t_ H1 locs ht_ hvm_ hw_ hB_ hz_ hk_ hS => ?_)
  obtain ⟨hP1, -, hD1⟩ := hB_
  rw [ht_] at hP1
  have hP := hP1
  have hD := hD1.weaken (fun _ q _ h => hFc q.1 h)
  clear hP1 hD1 hFc hk_ hz_ hvm_ ht_
  generalize H1 = H at hP hS ⊢
  refine W.widen (k := 600130) (n := 7301080) (Nat.le_of_ble_eq_true rfl) (Nat.le_of_ble_eq_true rfl) ?_
  obtain ⟨hr_, hs1⟩ := hw_
  subst hr_
  have hG1 := GI.sm hG hs1
  have he1 : X1.2.2.1 = X.2.2.1 := hs1.2.1
  have hn1 : X1.2.2.1 ≤ 6 := hG1.1
  have hc1 : (X1.1 6).1 ≤ 16 := IV.hc hG1.2.1
  refine b_if_eq (tgt := 257) hx hb dL_law_202 (by decide) (fun c_202 => absurd c_202 (by decide)) (fun c_202 => ?_)
  refine lv_aload_n hx hb dL_law_205 rfl (lv_at hl 1 rfl) ?_
  refine vp_callSi (W.runV (As := []) (rest := []) ⟨hx, hb, hml, hown, hts⟩ (kX5_savedStates l dC dI cI cV cW (a 0) (A 6 0) (A 7 0) (a 1) (a 2) (a 7) X1.2.2.1) (cwV 0 hts gL_law_X5_savedStates rfl rfl rfl hdX5_savedStates ⟨Nat.le_of_ble_eq_true rfl, Nat.le_of_ble_eq_true rfl⟩) (pR_V hK hP 0 3 rfl rfl rfl [0] rfl) rfl rfl hl.1 rfl (lv_room (Nat.le_of_ble_eq_true rfl)) dL_law_206 ⟨Nat.le_of_ble_eq_true rfl, Nat.le_of_ble_eq_true rfl⟩) (fun r_206 hr_ => ?_)
  subst hr_
  refine lv_bipush (v := (nI 6)) hx hb dL_law_209 (by decide) ?_
  refine n_icmp_ge (tgt := 259) hx hb dL_law_211 (by decide) (by omega) (by omega) (fun c_211 => ?_) (fun c_211 => ?_)
  · refine lv_iinc (v := (nI (t + 1))) (lv' := [(3, .int (nI (t + 1))), (0, .ref b0), (1, .ref (a 0)), (2, .ref (a 8)), (5, .int z)]) hx hb dL_law_259 hl (k := 3) rfl (n_inc _ 1) (by decide) rfl (fun ls hl => ?_)
    refine lv_goto (tgt := 15) hx hb dL_law_262 (by decide) ?_
    exact kk X1 H locs ls ⟨hP, hD, hS⟩ hG1 (lv_sub hl [1, 2, 3, 0] rfl)
  · have hlo := lowN_lt (v := z >>> ((nI 3) &&& 31)) (n := 5) (by decide)
    refine lv_aload_n hx hb dL_law_214 rfl (lv_at hl 1 rfl) ?_
    refine lv_aload_n hx hb dL_law_215 rfl (lv_at hl 2 rfl) ?_
    refine lv_iconst (v := (nI 1)) hx hb dL_law_216 (by decide) ?_
    refine lv_iload hx hb dL_law_217 (lv_at hl 4 rfl) ?_
    refine lv_iconst (v := (nI 3)) hx hb dL_law_219 (by decide) ?_
    refine lv_ishr hx hb dL_law_220 ?_
    refine lv_iconst (v := (nI 5)) hx hb dL_law_221 (by decide) ?_
    refine vp_callSi (W.runS (As := [.int (z >>> ((nI 3) &&& 31)), .int (nI 5)]) (rest := [.int (nI 1), .ref (a 8), .ref (a 0)]) ⟨hx, hb, hml, hown, hts⟩ (kL_low l dC dI cI cV cW (z >>> ((nI 3) &&& 31)) 5 (by omega)) (va_cwS 2 hts gL_law_L_low rfl rfl rfl hdL_low ⟨Nat.le_of_ble_eq_true rfl, Nat.le_of_ble_eq_true rfl⟩) (pR_S hK hP [] rfl) rfl rfl hl.1 rfl (lv_room (Nat.le_of_ble_eq_true rfl)) dL_law_222 ⟨Nat.le_of_ble_eq_true rfl, Nat.le_of_ble_eq_true rfl⟩) (fun r_222 hr_ => ?_)
    subst hr_
    refine n_iadd hx hb dL_law_225 ?_
    have hFc := freeW hD hS hA
    refine va_calli (va_runS (As := [.ref (a 0), .ref (a 8), .int (nI (1 + (lowN (z >>> ((nI 3) &&& 31)) 5)))]) (rest := []) ⟨hx, hb, hml, hown, hts⟩ (mX_isNight l dC dI cI cV cW H.size a A X1 (1 + (lowN (z >>> ((nI 3) &&& 31)) 5)) _ (by omega) hG1.2.1 (by omega)) (va_cwS 3 hts gL_law_L_isNight rfl rfl rfl hdL_isNight ⟨Nat.le_of_ble_eq_true rfl, Nat.le_of_ble_eq_true rfl⟩) (pW_S hK hP hD) rfl rfl hl.1 rfl (lv_room (Nat.le_of_ble_eq_true rfl)) dL_law_226 ⟨Nat.le_of_ble_eq_true rfl, Nat.le_of_ble_eq_true rfl⟩) hS (fun q _ h => hFc q h) hFc (fun r_226 X2 t_ H1 locs ht_ hvm_ hw_ hB_ hz_ hk_ hS => ?_)
    obtain ⟨hP1, -, hD1⟩ := hB_
    rw [ht_] at hP1
    have hP := hP1
    have hD := hD1.weaken (fun _ q _ h => hFc q.1 h)
    clear hP1 hD1 hFc hk_ hz_ hvm_ ht_
    generalize H1 = H at hP hS ⊢
    refine W.widen (k := 600130) (n := 7301080) (Nat.le_of_ble_eq_true rfl) (Nat.le_of_ble_eq_true rfl) ?_
    obtain ⟨hr_, hs2⟩ := hw_
    subst hr_
    have hG2 := GI.sm hG1 hs2
    have he2 : X2.2.2.1 = X1.2.2.1 := hs2.2.1
    have hn2 : X2.2.2.1 ≤ 6 := hG2.1
    have hc2 : (X2.1 6).1 ≤ 16 := IV.hc hG2.2.1
    refine b_if_eq (tgt := 257) hx hb dL_law_229 (by decide) (fun c_229 => absurd c_229 (by decide)) (fun c_229 => ?_)
    refine lv_aload_n hx hb dL_law_232 rfl (lv_at hl 1 rfl) ?_
    refine vp_callSi (W.runV (As := []) (rest := []) ⟨hx, hb, hml, hown, hts⟩ (kX5_records l dC dI cI cV cW (a 0) (A 6 0) (A 7 0) (a 1) (a 2) (a 7) (nI X2.2.2.1) (A 6 1) (A 6 2) (A 6 3) (A 6 4) (A 6 5) (A 6 6) (A 6 7) (A 6 8) ((X2.1 6).1) ((X2.1 6).2.1) ((X2.1 6).2.2.1)) (cwV 0 hts gL_law_X5_records rfl rfl rfl hdX5_records ⟨Nat.le_of_ble_eq_true rfl, Nat.le_of_ble_eq_true rfl⟩) (pR_V hK hP 0 3 rfl rfl rfl [0, 1] rfl) rfl rfl hl.1 rfl (lv_room (Nat.le_of_ble_eq_true rfl)) dL_law_233 ⟨Nat.le_of_ble_eq_true rfl, Nat.le_of_ble_eq_true rfl⟩) (fun r_233 hr_ => ?_)
    subst hr_
    refine n_if_le (tgt := 259) hx hb dL_law_236 (by decide) (by omega) (fun c_236 => ?_) (fun c_236 => ?_)
    · refine lv_iinc (v := (nI (t + 1))) (lv' := [(3, .int (nI (t + 1))), (0, .ref b0), (1, .ref (a 0)), (2, .ref (a 8)), (5, .int z)]) hx hb dL_law_259 hl (k := 3) rfl (n_inc _ 1) (by decide) rfl (fun ls hl => ?_)
      refine lv_goto (tgt := 15) hx hb dL_law_262 (by decide) ?_
      exact kk X2 H locs ls ⟨hP, hD, hS⟩ hG2 (lv_sub hl [1, 2, 3, 0] rfl)
    · refine lv_aload_n hx hb dL_law_239 rfl (lv_at hl 1 rfl) ?_
      refine lv_iload hx hb dL_law_240 (lv_at hl 4 rfl) ?_
      refine lv_iconst (v := (nI 5)) hx hb dL_law_242 (by decide) ?_
      refine lv_ishr hx hb dL_law_243 ?_
      refine lv_aload_n hx hb dL_law_244 rfl (lv_at hl 1 rfl) ?_
      refine vp_callSi (W.runV (As := []) (rest := [.int (z >>> ((nI 5) &&& 31)), .ref (a 0)]) ⟨hx, hb, hml, hown, hts⟩ (kX5_records l dC dI cI cV cW (a 0) (A 6 0) (A 7 0) (a 1) (a 2) (a 7) (nI X2.2.2.1) (A 6 1) (A 6 2) (A 6 3) (A 6 4) (A 6 5) (A 6 6) (A 6 7) (A 6 8) ((X2.1 6).1) ((X2.1 6).2.1) ((X2.1 6).2.2.1)) (cwV 0 hts gL_law_X5_records rfl rfl rfl hdX5_records ⟨Nat.le_of_ble_eq_true rfl, Nat.le_of_ble_eq_true rfl⟩) (pR_V hK hP 0 3 rfl rfl rfl [0, 1] rfl) rfl rfl hl.1 rfl (lv_room (Nat.le_of_ble_eq_true rfl)) dL_law_245 ⟨Nat.le_of_ble_eq_true rfl, Nat.le_of_ble_eq_true rfl⟩) (fun r_245 hr_ => ?_)
      subst hr_
      refine vp_callSi (W.runS (As := [.int (z >>> ((nI 5) &&& 31)), .int (nI ((X2.1 6).1))]) (rest := [.ref (a 0)]) ⟨hx, hb, hml, hown, hts⟩ (kL_low l dC dI cI cV cW (z >>> ((nI 5) &&& 31)) ((X2.1 6).1) (by omega)) (va_cwS 2 hts gL_law_L_low rfl rfl rfl hdL_low ⟨Nat.le_of_ble_eq_true rfl, Nat.le_of_ble_eq_true rfl⟩) (pR_S hK hP [] rfl) rfl rfl hl.1 rfl (lv_room (Nat.le_of_ble_eq_true rfl)) dL_law_248 ⟨Nat.le_of_ble_eq_true rfl, Nat.le_of_ble_eq_true rfl⟩) (fun r_248 hr_ => ?_)
      subst hr_
      have hFc := freeW hD hS hA
      refine va_calli (va_runS (As := [.ref (a 0), .int (nI (lowN (z >>> ((nI 5) &&& 31)) ((X2.1 6).1)))]) (rest := []) ⟨hx, hb, hml, hown, hts⟩ (mX_isCall l dC dI cI cV cW H.size a A X2 (lowN (z >>> ((nI 5) &&& 31)) ((X2.1 6).1)) (by omega) (IV.vo hG2.2.1) (lowN_lt (by omega))) (va_cwS 2 hts gL_law_L_isCall rfl rfl rfl hdL_isCall ⟨Nat.le_of_ble_eq_true rfl, Nat.le_of_ble_eq_true rfl⟩) (pW_S hK hP hD) rfl rfl hl.1 rfl (lv_room (Nat.le_of_ble_eq_true rfl)) dL_law_251 ⟨Nat.le_of_ble_eq_true rfl, Nat.le_of_ble_eq_true rfl⟩) hS (fun q _ h => hFc q h) hFc (fun r_251 X3 t_ H1 locs ht_ hvm_ hw_ hB_ hz_ hk_ hS => ?_)
      obtain ⟨hP1, -, hD1⟩ := hB_
      rw [ht_] at hP1
      have hP := hP1
      have hD := hD1.weaken (fun _ q _ h => hFc q.1 h)
      clear hP1 hD1 hFc hk_ hz_ hvm_ ht_
      generalize H1 = H at hP hS ⊢
      refine W.widen (k := 600130) (n := 7301080) (Nat.le_of_ble_eq_true rfl) (Nat.le_of_ble_eq_true rfl) ?_
      obtain ⟨hr_, hs3⟩ := hw_
      subst hr_
      have hG3 := GI.sm hG2 hs3
      have he3 : X3.2.2.1 = X2.2.2.1 := hs3.2.1
      have hn3 : X3.2.2.1 ≤ 6 := hG3.1
      have hc3 : (X3.1 6).1 ≤ 16 := IV.hc hG3.2.1
      refine b_if_ne (tgt := 259) hx hb dL_law_254 (by decide) (fun c_254 => ?_) (fun c_254 => absurd c_254 (by decide))
      refine lv_iinc (v := (nI (t + 1))) (lv' := [(3, .int (nI (t + 1))), (0, .ref b0), (1, .ref (a 0)), (2, .ref (a 8)), (5, .int z)]) hx hb dL_law_259 hl (k := 3) rfl (n_inc _ 1) (by decide) rfl (fun ls hl => ?_)
      refine lv_goto (tgt := 15) hx hb dL_law_262 (by decide) ?_
      exact kk X3 H locs ls ⟨hP, hD, hS⟩ hG3 (lv_sub hl [1, 2, 3, 0] rfl)
set_option maxHeartbeats 4000000 in
set_option maxRecDepth 100000 in
theorem seg69 (C : LC0 p l s m args c b0 L xs dC dI cI cV cW) (ht : t < 36) (y z : Int32) (kk : ∀ (X : XS) (H : Heap) (locs : List Loc) (ls : Array Slot), LSt s dC dI cI cV cW a A X H locs → GI (t + 1) X → lv_has ls 12 [(0, .ref b0), (1, .ref (a 0)), (2, .ref (a 8)), (3, .int (nI t)), (5, .int z)] → W p l e room_1 s m args below meth c H locs 600130 7301080 Q (F0 m 198 ls [])) : ∀ (X : XS) (H : Heap) (locs : List Loc) (ls : Array Slot), LSt s dC dI cI cV cW a A X H locs → GI t X → (X.2.2.1 < 6 ∧ lv_has ls 12 [(0, .ref b0), (1, .ref (a 0)), (2, .ref (a 8)), (3, .int (nI t)), (4, .int y), (5, .int z)]) → W p l e room_1 s m args below meth c H locs 600130 7301080 Q (F0 m 69 ls []) := by
  obtain ⟨hx, hb, hml, hown, hts, hX, hbl, hL, hK⟩ := id C
  have hbA : ¬ Fr s b0 := Nat.not_le.mpr hbl
  have hA : ∀ q : Nat, s.heap.size ≤ q → Fr s q := fun _ h => h
  intro X H locs ls hLS hG hl0
  obtain ⟨hP, hD, hS⟩ := hLS
  have hl := hl0
  have hn : X.2.2.1 ≤ 6 := hG.1
  have hc : (X.1 6).1 ≤ 16 := IV.hc hG.2.1
  have h6 : X.2.2.1 < 6 := hl0.1
  replace hl := hl0.2
  refine lv_aload_n hx hb dL_law_69 rfl (lv_at hl 1 rfl) ?_
  refine vp_callSi (W.runV (As := []) (rest := []) ⟨hx, hb, hml, hown, hts⟩ (kX5_savedStates l dC dI cI cV cW (a 0) (A 6 0) (A 7 0) (a 1) (a 2) (a 7) X.2.2.1) (cwV 0 hts gL_law_X5_savedStates rfl rfl rfl hdX5_savedStates ⟨Nat.le_of_ble_eq_true rfl, Nat.le_of_ble_eq_true rfl⟩) (pR_V hK hP 0 3 rfl rfl rfl [0] rfl) rfl rfl hl.1 rfl (lv_room (Nat.le_of_ble_eq_true rfl)) dL_law_70 ⟨Nat.le_of_ble_eq_true rfl, Nat.le_of_ble_eq_true rfl⟩) (fun r_70 hr_ => ?_)
  subst hr_
  refine lv_istore (lv' := [(6, .int (nI X.2.2.1)), (0, .ref b0), (1, .ref (a 0)), (2, .ref (a 8)), (3, .int (nI t)), (4, .int y), (5, .int z)]) hx hb dL_law_73 hl (by decide) rfl (fun ls hl => ?_)
  refine lv_aload_n hx hb dL_law_75 rfl (lv_at hl 2 rfl) ?_
  have hFc := freeW hD hS hA
  refine va_calll (va_runV (As := []) (rest := []) ⟨hx, hb, hml, hown, hts⟩ (mX_digest l dC dI cI cV cW H.size a A X (IV.vo hG.2.1)) (cwV 0 hts gL_law_X5_digest rfl rfl rfl hdX5_digest ⟨Nat.le_of_ble_eq_true rfl, Nat.le_of_ble_eq_true rfl⟩) (pW_V hK hP hP hD 0 3 rfl rfl rfl) rfl rfl hl.1 rfl (lv_room (Nat.le_of_ble_eq_true rfl)) dL_law_76 ⟨Nat.le_of_ble_eq_true rfl, Nat.le_of_ble_eq_true rfl⟩) hS (fun q _ h => hFc q h) hFc (fun r_76 X1 t_ H1 locs ht_ hvm_ hw_ hB_ hz_ hk_ hS => ?_)
  obtain ⟨hP1, -, hD1⟩ := hB_
  rw [ht_] at hP1
  have hP := hP1
  have hD := hD1.weaken (fun _ q _ h => hFc q.1 h)
  clear hP1 hD1 hFc hk_ hz_ hvm_ ht_
  generalize H1 = H at hP hS ⊢
  refine W.widen (k := 600130) (n := 7301080) (Nat.le_of_ble_eq_true rfl) (Nat.le_of_ble_eq_true rfl) ?_
  obtain ⟨hr_, hs1⟩ := hw_
  subst hr_
  have hG1 := GI.sm hG hs1
  have he1 : X1.2.2.1 = X.2.2.1 := hs1.2.1
  have hn1 : X1.2.2.1 ≤ 6 := hG1.1
  have hc1 : (X1.1 6).1 ≤ 16 := IV.hc hG1.2.1
  refine lv_lstore (lv' := [(7, .long (dgV (X.1 6) X.2.1)), (6, .int (nI X.2.2.1)), (0, .ref b0), (1, .ref (a 0)), (2, .ref (a 8)), (3, .int (nI t)), (4, .int y), (5, .int z)]) hx hb dL_law_79 hl (by decide) rfl (fun ls hl => ?_)
  refine lv_aload_n hx hb dL_law_81 rfl (lv_at hl 3 rfl) ?_
  refine lv_iload hx hb dL_law_82 (lv_at hl 6 rfl) ?_
  refine lv_iload hx hb dL_law_84 (lv_at hl 7 rfl) ?_
  have hFc := freeW hD hS hA
  refine va_calli (va_runS (As := [.ref (a 0), .int y, .int z]) (rest := []) ⟨hx, hb, hml, hown, hts⟩ (mX_act l dC dI cI cV cW H.size a A X1 y z (by omega) (IV.vo hG1.2.1) (fun k hk => IV.f99 hG1.2.1 hk)) (va_cwS 3 hts gL_law_L_act rfl rfl rfl hdL_act ⟨Nat.le_of_ble_eq_true rfl, Nat.le_of_ble_eq_true rfl⟩) (pW_S hK hP hD) rfl rfl hl.1 rfl (lv_room (Nat.le_of_ble_eq_true rfl)) dL_law_86 ⟨Nat.le_of_ble_eq_true rfl, Nat.le_of_ble_eq_true rfl⟩) hS (fun q _ h => hFc q h) hFc (fun r_86 X2 t_ H1 locs ht_ hvm_ hw_ hB_ hz_ hk_ hS => ?_)
  obtain ⟨hP1, -, hD1⟩ := hB_
  rw [ht_] at hP1
  have hP := hP1
  have hD := hD1.weaken (fun _ q _ h => hFc q.1 h)
  clear hP1 hD1 hFc hk_ hz_ hvm_ ht_
  generalize H1 = H at hP hS ⊢
  refine W.widen (k := 600130) (n := 7301080) (Nat.le_of_ble_eq_true rfl) (Nat.le_of_ble_eq_true rfl) ?_
  rcases hw_ with ⟨ha, hr_, hs2⟩ | ⟨ha, hn2, hk2, hs2⟩
  · subst hr_
    have hG2 := GI.sm hG1 hs2
    have he2 : X2.2.2.1 = X1.2.2.1 := hs2.2.1
    have hn2 : X2.2.2.1 ≤ 6 := hG2.1
    have hc2 : (X2.1 6).1 ≤ 16 := IV.hc hG2.2.1
    refine lv_istore (lv' := [(9, .int (-9)), (7, .long (dgV (X.1 6) X.2.1)), (6, .int (nI X.2.2.1)), (0, .ref b0), (1, .ref (a 0)), (2, .ref (a 8)), (3, .int (nI t)), (4, .int y), (5, .int z)]) hx hb dL_law_89 hl (by decide) rfl (fun ls hl => ?_)
    refine lv_aload_n hx hb dL_law_91 rfl (lv_at hl 4 rfl) ?_
    have hFc := freeW hD hS hA
    refine va_calll (va_runV (As := []) (rest := []) ⟨hx, hb, hml, hown, hts⟩ (mX_digest l dC dI cI cV cW H.size a A X2 (IV.vo hG2.2.1)) (cwV 0 hts gL_law_X5_digest rfl rfl rfl hdX5_digest ⟨Nat.le_of_ble_eq_true rfl, Nat.le_of_ble_eq_true rfl⟩) (pW_V hK hP hP hD 0 3 rfl rfl rfl) rfl rfl hl.1 rfl (lv_room (Nat.le_of_ble_eq_true rfl)) dL_law_92 ⟨Nat.le_of_ble_eq_true rfl, Nat.le_of_ble_eq_true rfl⟩) hS (fun q _ h => hFc q h) hFc (fun r_92 X3 t_ H1 locs ht_ hvm_ hw_ hB_ hz_ hk_ hS => ?_)
    obtain ⟨hP1, -, hD1⟩ := hB_
    rw [ht_] at hP1
    have hP := hP1
    have hD := hD1.weaken (fun _ q _ h => hFc q.1 h)
    clear hP1 hD1 hFc hk_ hz_ hvm_ ht_
    generalize H1 = H at hP hS ⊢
    refine W.widen (k := 600130) (n := 7301080) (Nat.le_of_ble_eq_true rfl) (Nat.le_of_ble_eq_true rfl) ?_
    obtain ⟨hr_, hs3⟩ := hw_
    subst hr_
    have hG3 := GI.sm hG2 hs3
    have he3 : X3.2.2.1 = X2.2.2.1 := hs3.2.1
    have hn3 : X3.2.2.1 ≤ 6 := hG3.1
    have hc3 : (X3.1 6).1 ≤ 16 := IV.hc hG3.2.1
    refine lv_lstore (lv' := [(10, .long (dgV (X2.1 6) X2.2.1)), (9, .int (-9)), (7, .long (dgV (X.1 6) X.2.1)), (6, .int (nI X.2.2.1)), (0, .ref b0), (1, .ref (a 0)), (2, .ref (a 8)), (3, .int (nI t)), (4, .int y), (5, .int z)]) hx hb dL_law_95 hl (by decide) rfl (fun ls hl => ?_)
    refine lv_iload hx hb dL_law_97 (lv_at hl 1 rfl) ?_
    refine lv_bipush (v := (-9)) hx hb dL_law_99 (by decide) ?_
    refine lv_icmp_ne (tgt := 124) hx hb dL_law_101 (by decide) (fun c_101 => (by exfalso; exact c_101 rfl)) (fun c_101 => ?_)
    refine lv_lload hx hb dL_law_104 (lv_at hl 0 rfl) ?_
    refine lv_lload hx hb dL_law_106 (lv_at hl 2 rfl) ?_
    refine W.lcmp hx hb dL_law_108 ?_
    refine lv_cgi (show (lg_cmp (dgV (X2.1 6) X2.2.1) (dgV (X.1 6) X.2.1)) = (nI 0) from lcmp_0 (by rw [hs2.1, hs1.1]; exact dgV_eq _ _ _)) ?_
    refine n_if_ne (tgt := 135) hx hb dL_law_109 (by decide) (by omega) (fun c_109 => absurd c_109 (by decide)) (fun c_109 => ?_)
    refine lv_aload_n hx hb dL_law_112 rfl (lv_at hl 5 rfl) ?_
    refine vp_callSi (W.runV (As := []) (rest := []) ⟨hx, hb, hml, hown, hts⟩ (kX5_savedStates l dC dI cI cV cW (a 0) (A 6 0) (A 7 0) (a 1) (a 2) (a 7) X3.2.2.1) (cwV 0 hts gL_law_X5_savedStates rfl rfl rfl hdX5_savedStates ⟨Nat.le_of_ble_eq_true rfl, Nat.le_of_ble_eq_true rfl⟩) (pR_V hK hP 0 3 rfl rfl rfl [0] rfl) rfl rfl hl.1 rfl (lv_room (Nat.le_of_ble_eq_true rfl)) dL_law_113 ⟨Nat.le_of_ble_eq_true rfl, Nat.le_of_ble_eq_true rfl⟩) (fun r_113 hr_ => ?_)
    subst hr_
    refine lv_iload hx hb dL_law_116 (lv_at hl 3 rfl) ?_
    refine n_icmp_eq (tgt := 137) hx hb dL_law_118 (by decide) (by omega) (by omega) (fun c_118 => ?_) (fun c_118 => (by exfalso; omega))
    refine lv_iload hx hb dL_law_137 (lv_at hl 1 rfl) ?_
    refine lv_bipush (v := (-9)) hx hb dL_law_139 (by decide) ?_
    refine lv_icmp_eq (tgt := 198) hx hb dL_law_141 (by decide) (fun c_141 => ?_) (fun c_141 => (by exfalso; exact c_141 rfl))
    exact kk X3 H locs ls ⟨hP, hD, hS⟩ (GI.up hG3 (by omega) (by omega)) (lv_sub hl [4, 5, 6, 7, 9] rfl)
  · have hok := actO_ok hG1.2.1 (by omega) ha
    have hm9 := actO_m9 hG1.2.1 (by omega) ha
    have hG2 : GI (t + 1) X2 := GI.act hG1 (by omega) (by omega) hn2 hok.2 hk2 hs2
    have hn2 : X2.2.2.1 ≤ 6 := hG2.1
    have hc2 : (X2.1 6).1 ≤ 16 := IV.hc hG2.2.1
    refine lv_istore (lv' := [(9, .int r_86), (7, .long (dgV (X.1 6) X.2.1)), (6, .int (nI X.2.2.1)), (0, .ref b0), (1, .ref (a 0)), (2, .ref (a 8)), (3, .int (nI t)), (4, .int y), (5, .int z)]) hx hb dL_law_89 hl (by decide) rfl (fun ls hl => ?_)
    refine lv_aload_n hx hb dL_law_91 rfl (lv_at hl 4 rfl) ?_
    have hFc := freeW hD hS hA
    refine va_calll (va_runV (As := []) (rest := []) ⟨hx, hb, hml, hown, hts⟩ (mX_digest l dC dI cI cV cW H.size a A X2 (IV.vo hG2.2.1)) (cwV 0 hts gL_law_X5_digest rfl rfl rfl hdX5_digest ⟨Nat.le_of_ble_eq_true rfl, Nat.le_of_ble_eq_true rfl⟩) (pW_V hK hP hP hD 0 3 rfl rfl rfl) rfl rfl hl.1 rfl (lv_room (Nat.le_of_ble_eq_true rfl)) dL_law_92 ⟨Nat.le_of_ble_eq_true rfl, Nat.le_of_ble_eq_true rfl⟩) hS (fun q _ h => hFc q h) hFc (fun r_92 X3 t_ H1 locs ht_ hvm_ hw_ hB_ hz_ hk_ hS => ?_)
    obtain ⟨hP1, -, hD1⟩ := hB_
    rw [ht_] at hP1
    have hP := hP1
    have hD := hD1.weaken (fun _ q _ h => hFc q.1 h)
    clear hP1 hD1 hFc hk_ hz_ hvm_ ht_
    generalize H1 = H at hP hS ⊢
    refine W.widen (k := 600130) (n := 7301080) (Nat.le_of_ble_eq_true rfl) (Nat.le_of_ble_eq_true rfl) ?_
    obtain ⟨hr_, hs3⟩ := hw_
    subst hr_
    have hG3 := GI.sm hG2 hs3
    have he3 : X3.2.2.1 = X2.2.2.1 := hs3.2.1
    have hn3 : X3.2.2.1 ≤ 6 := hG3.1
    have hc3 : (X3.1 6).1 ≤ 16 := IV.hc hG3.2.1
    refine lv_lstore (lv' := [(10, .long (dgV (X2.1 6) X2.2.1)), (9, .int r_86), (7, .long (dgV (X.1 6) X.2.1)), (6, .int (nI X.2.2.1)), (0, .ref b0), (1, .ref (a 0)), (2, .ref (a 8)), (3, .int (nI t)), (4, .int y), (5, .int z)]) hx hb dL_law_95 hl (by decide) rfl (fun ls hl => ?_)
    refine lv_iload hx hb dL_law_97 (lv_at hl 1 rfl) ?_
    refine lv_bipush (v := (-9)) hx hb dL_law_99 (by decide) ?_
    refine lv_icmp_ne (tgt := 124) hx hb dL_law_101 (by decide) (fun c_101 => ?_) (fun c_101 => (by exfalso; exact hm9 c_101))
    refine lv_aload_n hx hb dL_law_124 rfl (lv_at hl 5 rfl) ?_
    refine vp_callSi (W.runV (As := []) (rest := []) ⟨hx, hb, hml, hown, hts⟩ (kX5_savedStates l dC dI cI cV cW (a 0) (A 6 0) (A 7 0) (a 1) (a 2) (a 7) X3.2.2.1) (cwV 0 hts gL_law_X5_savedStates rfl rfl rfl hdX5_savedStates ⟨Nat.le_of_ble_eq_true rfl, Nat.le_of_ble_eq_true rfl⟩) (pR_V hK hP 0 3 rfl rfl rfl [0] rfl) rfl rfl hl.1 rfl (lv_room (Nat.le_of_ble_eq_true rfl)) dL_law_125 ⟨Nat.le_of_ble_eq_true rfl, Nat.le_of_ble_eq_true rfl⟩) (fun r_125 hr_ => ?_)
    subst hr_
    refine lv_iload hx hb dL_law_128 (lv_at hl 3 rfl) ?_
    refine lv_iconst (v := (nI 1)) hx hb dL_law_130 (by decide) ?_
    refine n_iadd hx hb dL_law_131 ?_
    refine n_icmp_eq (tgt := 137) hx hb dL_law_132 (by decide) (by omega) (by omega) (fun c_132 => ?_) (fun c_132 => (by exfalso; omega))
    refine lv_iload hx hb dL_law_137 (lv_at hl 1 rfl) ?_
    refine lv_bipush (v := (-9)) hx hb dL_law_139 (by decide) ?_
    refine lv_icmp_eq (tgt := 198) hx hb dL_law_141 (by decide) (fun c_141 => (by exfalso; exact hm9 c_141)) (fun c_141 => ?_)
    refine lv_iload hx hb dL_law_144 (lv_at hl 8 rfl) ?_
    refine lv_bipush (v := (nI 10)) hx hb dL_law_146 (by decide) ?_
    refine lv_ishr hx hb dL_law_148 ?_
    refine lv_iconst (v := (nI 1)) hx hb dL_law_149 (by decide) ?_
    refine lv_iand hx hb dL_law_150 ?_
    refine lv_if_ne (tgt := 198) hx hb dL_law_151 (by decide) (fun c_151 => ?_) (fun c_151 => ?_)
    · exact kk X3 H locs ls ⟨hP, hD, hS⟩ (GI.up hG3 (by omega) (by omega)) (lv_sub hl [4, 5, 6, 7, 9] rfl)
    · refine lv_aload_n hx hb dL_law_154 rfl (lv_at hl 5 rfl) ?_
      have hFc := freeW hD hS hA
      refine va_calli (va_runV (As := []) (rest := []) ⟨hx, hb, hml, hown, hts⟩ (mX_undo l dC dI cI cV cW H.size a A X3 (by omega)) (cwV 0 hts gL_law_X5_undo rfl rfl rfl hdX5_undo ⟨Nat.le_of_ble_eq_true rfl, Nat.le_of_ble_eq_true rfl⟩) (pW_V hK hP hP hD 0 3 rfl rfl rfl) rfl rfl hl.1 rfl (lv_room (Nat.le_of_ble_eq_true rfl)) dL_law_155 ⟨Nat.le_of_ble_eq_true rfl, Nat.le_of_ble_eq_true rfl⟩) hS (fun q _ h => hFc q h) hFc (fun r_155 X4 t_ H1 locs ht_ hvm_ hw_ hB_ hz_ hk_ hS => ?_)
      obtain ⟨hP1, -, hD1⟩ := hB_
      rw [ht_] at hP1
      have hP := hP1
      have hD := hD1.weaken (fun _ q _ h => hFc q.1 h)
      clear hP1 hD1 hFc hk_ hz_ hvm_ ht_
      generalize H1 = H at hP hS ⊢
      refine W.widen (k := 600130) (n := 7301080) (Nat.le_of_ble_eq_true rfl) (Nat.le_of_ble_eq_true rfl) ?_
      obtain ⟨hr_, hs4⟩ := hw_
      subst hr_
      have he4 : X4.2.2.1 = X3.2.2.1 - 1 := hs4.2.1
      have h46 : X4.1 6 = X.1 6 := by
        rw [hs4.1, show X3.2.2.1 - 1 = X1.2.2.1 by omega, hs3.2.2 _ (by omega), hk2, hs1.1]
      have hG4 : GI t X4 := ⟨by omega, by rw [h46]; exact hG.2.1, fun j hj => by rw [hs4.2.2 j (by omega), hs3.2.2 j (by omega), hs2 j (by omega)]; exact hG1.2.2 j (by omega)⟩
      have hn4 : X4.2.2.1 ≤ 6 := hG4.1
      have hc4 : (X4.1 6).1 ≤ 16 := IV.hc hG4.2.1
      refine lv_iload hx hb dL_law_158 (lv_at hl 3 rfl) ?_
      refine n_icmp_ne (tgt := 196) hx hb dL_law_160 (by decide) (by omega) (by omega) (fun c_160 => (by exfalso; omega)) (fun c_160 => ?_)
      refine lv_aload_n hx hb dL_law_163 rfl (lv_at hl 5 rfl) ?_
      have hFc := freeW hD hS hA
      refine va_calll (va_runV (As := []) (rest := []) ⟨hx, hb, hml, hown, hts⟩ (mX_digest l dC dI cI cV cW H.size a A X4 (IV.vo hG4.2.1)) (cwV 0 hts gL_law_X5_digest rfl rfl rfl hdX5_digest ⟨Nat.le_of_ble_eq_true rfl, Nat.le_of_ble_eq_true rfl⟩) (pW_V hK hP hP hD 0 3 rfl rfl rfl) rfl rfl hl.1 rfl (lv_room (Nat.le_of_ble_eq_true rfl)) dL_law_164 ⟨Nat.le_of_ble_eq_true rfl, Nat.le_of_ble_eq_true rfl⟩) hS (fun q _ h => hFc q h) hFc (fun r_164 X5 t_ H1 locs ht_ hvm_ hw_ hB_ hz_ hk_ hS => ?_)
      obtain ⟨hP1, -, hD1⟩ := hB_
      rw [ht_] at hP1
      have hP := hP1
      have hD := hD1.weaken (fun _ q _ h => hFc q.1 h)
      clear hP1 hD1 hFc hk_ hz_ hvm_ ht_
      generalize H1 = H at hP hS ⊢
      refine W.widen (k := 600130) (n := 7301080) (Nat.le_of_ble_eq_true rfl) (Nat.le_of_ble_eq_true rfl) ?_
      obtain ⟨hr_, hs5⟩ := hw_
      subst hr_
      have hG5 := GI.sm hG4 hs5
      have he5 : X5.2.2.1 = X4.2.2.1 := hs5.2.1
      have hn5 : X5.2.2.1 ≤ 6 := hG5.1
      have hc5 : (X5.1 6).1 ≤ 16 := IV.hc hG5.2.1
      refine lv_lload hx hb dL_law_167 (lv_at hl 2 rfl) ?_
      refine W.lcmp hx hb dL_law_169 ?_
      refine lv_cgi (show (lg_cmp (dgV (X4.1 6) X4.2.1) (dgV (X.1 6) X.2.1)) = (nI 0) from lcmp_0 (by rw [h46]; exact dgV_eq _ _ _)) ?_
      refine n_if_ne (tgt := 196) hx hb dL_law_170 (by decide) (by omega) (fun c_170 => absurd c_170 (by decide)) (fun c_170 => ?_)
      refine lv_aload_n hx hb dL_law_173 rfl (lv_at hl 5 rfl) ?_
      refine lv_iload hx hb dL_law_174 (lv_at hl 8 rfl) ?_
      refine lv_iload hx hb dL_law_176 (lv_at hl 9 rfl) ?_
      have hFc := freeW hD hS hA
      refine va_calli (va_runS (As := [.ref (a 0), .int y, .int z]) (rest := []) ⟨hx, hb, hml, hown, hts⟩ (mX_act l dC dI cI cV cW H.size a A X5 y z (by omega) (IV.vo hG5.2.1) (fun k hk => IV.f99 hG5.2.1 hk)) (va_cwS 3 hts gL_law_L_act rfl rfl rfl hdL_act ⟨Nat.le_of_ble_eq_true rfl, Nat.le_of_ble_eq_true rfl⟩) (pW_S hK hP hD) rfl rfl hl.1 rfl (lv_room (Nat.le_of_ble_eq_true rfl)) dL_law_178 ⟨Nat.le_of_ble_eq_true rfl, Nat.le_of_ble_eq_true rfl⟩) hS (fun q _ h => hFc q h) hFc (fun r_178 X6 t_ H1 locs ht_ hvm_ hw_ hB_ hz_ hk_ hS => ?_)
      obtain ⟨hP1, -, hD1⟩ := hB_
      rw [ht_] at hP1
      have hP := hP1
      have hD := hD1.weaken (fun _ q _ h => hFc q.1 h)
      clear hP1 hD1 hFc hk_ hz_ hvm_ ht_
      generalize H1 = H at hP hS ⊢
      refine W.widen (k := 600130) (n := 7301080) (Nat.le_of_ble_eq_true rfl) (Nat.le_of_ble_eq_true rfl) ?_
      have h56 : X5.1 6 = X1.1 6 := by rw [hs5.1, h46, hs1.1]
      rcases hw_ with ⟨hb9, -, -⟩ | ⟨hb9, hn6, hk6, hs6⟩
      · rw [h56, ha] at hb9; cases hb9
      rw [h56, ha] at hb9
      have hr9 := (Prod.mk.inj (Option.some.inj hb9)).1
      have hv9 := (Prod.mk.inj (Option.some.inj hb9)).2
      subst hr9
      have hG6 : GI (t + 1) X6 := GI.act hG5 (by omega) (by omega) hn6 (by rw [← hv9]; exact hok.2) hk6 hs6
      have hn6 : X6.2.2.1 ≤ 6 := hG6.1
      have hc6 : (X6.1 6).1 ≤ 16 := IV.hc hG6.2.1
      refine lv_iload hx hb dL_law_181 (lv_at hl 1 rfl) ?_
      refine lv_icmp_ne (tgt := 196) hx hb dL_law_183 (by decide) (fun c_183 => (by exfalso; exact c_183 rfl)) (fun c_183 => ?_)
      refine lv_aload_n hx hb dL_law_186 rfl (lv_at hl 5 rfl) ?_
      have hFc := freeW hD hS hA
      refine va_calll (va_runV (As := []) (rest := []) ⟨hx, hb, hml, hown, hts⟩ (mX_digest l dC dI cI cV cW H.size a A X6 (IV.vo hG6.2.1)) (cwV 0 hts gL_law_X5_digest rfl rfl rfl hdX5_digest ⟨Nat.le_of_ble_eq_true rfl, Nat.le_of_ble_eq_true rfl⟩) (pW_V hK hP hP hD 0 3 rfl rfl rfl) rfl rfl hl.1 rfl (lv_room (Nat.le_of_ble_eq_true rfl)) dL_law_187 ⟨Nat.le_of_ble_eq_true rfl, Nat.le_of_ble_eq_true rfl⟩) hS (fun q _ h => hFc q h) hFc (fun r_187 X7 t_ H1 locs ht_ hvm_ hw_ hB_ hz_ hk_ hS => ?_)
      obtain ⟨hP1, -, hD1⟩ := hB_
      rw [ht_] at hP1
      have hP := hP1
      have hD := hD1.weaken (fun _ q _ h => hFc q.1 h)
      clear hP1 hD1 hFc hk_ hz_ hvm_ ht_
      generalize H1 = H at hP hS ⊢
      refine W.widen (k := 600130) (n := 7301080) (Nat.le_of_ble_eq_true rfl) (Nat.le_of_ble_eq_true rfl) ?_
      obtain ⟨hr_, hs7⟩ := hw_
      subst hr_
      have hG7 := GI.sm hG6 hs7
      have he7 : X7.2.2.1 = X6.2.2.1 := hs7.2.1
      have hn7 : X7.2.2.1 ≤ 6 := hG7.1
      have hc7 : (X7.1 6).1 ≤ 16 := IV.hc hG7.2.1
      refine lv_lload hx hb dL_law_190 (lv_at hl 0 rfl) ?_
      refine W.lcmp hx hb dL_law_192 ?_
      refine lv_cgi (show (lg_cmp (dgV (X6.1 6) X6.2.1) (dgV (X2.1 6) X2.2.1)) = (nI 0) from lcmp_0 (by rw [← hv9]; exact dgV_eq _ _ _)) ?_
      refine n_if_eq (tgt := 198) hx hb dL_law_193 (by decide) (by omega) (fun c_193 => ?_) (fun c_193 => absurd c_193 (by decide))
      exact kk X7 H locs ls ⟨hP, hD, hS⟩ (GI.up hG7 (by omega) (by omega)) (lv_sub hl [4, 5, 6, 7, 9] rfl)
set_option maxHeartbeats 4000000 in
set_option maxRecDepth 100000 in
theorem seg15 (C : LC0 p l s m args c b0 L xs dC dI cI cV cW) (ht : t < 36) (kk : ∀ (X : XS) (H : Heap) (locs : List Loc) (ls : Array Slot), LSt s dC dI cI cV cW a A X H locs → GI (t + 1) X → lv_has ls 12 [(0, .ref b0), (1, .ref (a 0)), (2, .ref (a 8)), (3, .int (nI (t + 1)))] → W p l e room_1 s m args below meth c H locs 600130 7301080 Q (F0 m 15 ls [])) : ∀ (X : XS) (H : Heap) (locs : List Loc) (ls : Array Slot), LSt s dC dI cI cV cW a A X H locs → GI t X → lv_has ls 12 [(0, .ref b0), (1, .ref (a 0)), (2, .ref (a 8)), (3, .int (nI t))] → W p l e room_1 s m args below meth c H locs 600130 7301080 Q (F0 m 15 ls []) := by
  obtain ⟨hx, hb, hml, hown, hts, hX, hbl, hL, hK⟩ := id C
  have hbA : ¬ Fr s b0 := Nat.not_le.mpr hbl
  have hA : ∀ q : Nat, s.heap.size ≤ q → Fr s q := fun _ h => h
  intro X H locs ls hLS hG hl0
  obtain ⟨hP, hD, hS⟩ := hLS
  have hl := hl0
  have hn : X.2.2.1 ≤ 6 := hG.1
  have hc : (X.1 6).1 ≤ 16 := IV.hc hG.2.1
  refine lv_iload_n hx hb dL_law_15 rfl (lv_at hl 3 rfl) ?_
  refine lv_bipush (v := (nI 36)) hx hb dL_law_16 (by decide) ?_
  refine n_icmp_ge (tgt := 265) hx hb dL_law_18 (by decide) (by omega) (by omega) (fun c_18 => (by exfalso; omega)) (fun c_18 => ?_)
  refine lv_iload_n hx hb dL_law_21 rfl (lv_at hl 3 rfl) ?_
  refine lv_iconst (v := (nI 3)) hx hb dL_law_22 (by decide) ?_
  refine n_icmp_ge (tgt := 30) hx hb dL_law_23 (by decide) (by omega) (by omega) (fun c_23 => ?_) (fun c_23 => ?_)
  · refine lv_aload_n hx hb dL_law_30 rfl (lv_at hl 0 rfl) ?_
    refine lv_iconst (v := (nI 2)) hx hb dL_law_31 (by decide) ?_
    refine lv_iload_n hx hb dL_law_32 rfl (lv_at hl 3 rfl) ?_
    refine n_imul hx hb dL_law_33 ?_
    refine vp_callSi (W.runS (As := [.ref b0, .int (nI (2 * t))]) (rest := []) ⟨hx, hb, hml, hown, hts⟩ (kL_cell l b0 L (2 * t) xs hL (by omega)) (va_cwS 2 hts gL_law_L_cell rfl rfl rfl hdL_cell ⟨Nat.le_of_ble_eq_true rfl, Nat.le_of_ble_eq_true rfl⟩) ⟨pX_bl, fun U hU hW => ⟨rfl, by rw [hU]; exact (hX.kept (hS.2.1 b0 hbl hbA)).moved hW.alike, by rw [hU]; exact Nat.lt_of_lt_of_le hbl hS.1⟩⟩ rfl rfl hl.1 rfl (lv_room (Nat.le_of_ble_eq_true rfl)) dL_law_34 ⟨Nat.le_of_ble_eq_true rfl, Nat.le_of_ble_eq_true rfl⟩) (fun r_34 _ => ?_)
    refine lv_istore (lv' := [(4, .int r_34), (0, .ref b0), (1, .ref (a 0)), (2, .ref (a 8)), (3, .int (nI t))]) hx hb dL_law_37 hl (by decide) rfl (fun ls hl => ?_)
    refine lv_aload_n hx hb dL_law_39 rfl (lv_at hl 1 rfl) ?_
    refine lv_iconst (v := (nI 2)) hx hb dL_law_40 (by decide) ?_
    refine lv_iload_n hx hb dL_law_41 rfl (lv_at hl 4 rfl) ?_
    refine n_imul hx hb dL_law_42 ?_
    refine lv_iconst (v := (nI 1)) hx hb dL_law_43 (by decide) ?_
    refine n_iadd hx hb dL_law_44 ?_
    refine vp_callSi (W.runS (As := [.ref b0, .int (nI ((2 * t) + 1))]) (rest := []) ⟨hx, hb, hml, hown, hts⟩ (kL_cell l b0 L ((2 * t) + 1) xs hL (by omega)) (va_cwS 2 hts gL_law_L_cell rfl rfl rfl hdL_cell ⟨Nat.le_of_ble_eq_true rfl, Nat.le_of_ble_eq_true rfl⟩) ⟨pX_bl, fun U hU hW => ⟨rfl, by rw [hU]; exact (hX.kept (hS.2.1 b0 hbl hbA)).moved hW.alike, by rw [hU]; exact Nat.lt_of_lt_of_le hbl hS.1⟩⟩ rfl rfl hl.1 rfl (lv_room (Nat.le_of_ble_eq_true rfl)) dL_law_45 ⟨Nat.le_of_ble_eq_true rfl, Nat.le_of_ble_eq_true rfl⟩) (fun r_45 _ => ?_)
    refine lv_istore (lv' := [(5, .int r_45), (4, .int r_34), (0, .ref b0), (1, .ref (a 0)), (2, .ref (a 8)), (3, .int (nI t))]) hx hb dL_law_48 hl (by decide) rfl (fun ls hl => ?_)
    refine lv_aload_n hx hb dL_law_50 rfl (lv_at hl 3 rfl) ?_
    refine vp_callSi (W.runV (As := []) (rest := []) ⟨hx, hb, hml, hown, hts⟩ (kX5_savedStates l dC dI cI cV cW (a 0) (A 6 0) (A 7 0) (a 1) (a 2) (a 7) X.2.2.1) (cwV 0 hts gL_law_X5_savedStates rfl rfl rfl hdX5_savedStates ⟨Nat.le_of_ble_eq_true rfl, Nat.le_of_ble_eq_true rfl⟩) (pR_V hK hP 0 3 rfl rfl rfl [0] rfl) rfl rfl hl.1 rfl (lv_room (Nat.le_of_ble_eq_true rfl)) dL_law_51 ⟨Nat.le_of_ble_eq_true rfl, Nat.le_of_ble_eq_true rfl⟩) (fun r_51 hr_ => ?_)
    subst hr_
    refine lv_bipush (v := (nI 6)) hx hb dL_law_54 (by decide) ?_
    refine n_icmp_ne (tgt := 69) hx hb dL_law_56 (by decide) (by omega) (by omega) (fun c_56 => ?_) (fun c_56 => ?_)
    · exact seg69 C ht r_34 r_45 (fun X H locs ls h1 h2 h3 => seg198 C ht r_45 kk X H locs ls h1 h2 h3) X H locs ls ⟨hP, hD, hS⟩ hG ⟨by omega, lv_sub hl [2, 3, 4, 5, 1, 0] rfl⟩
    · refine lv_aload_n hx hb dL_law_59 rfl (lv_at hl 3 rfl) ?_
      have hFc := freeW hD hS hA
      refine va_calli (va_runV (As := []) (rest := []) ⟨hx, hb, hml, hown, hts⟩ (mX_undo l dC dI cI cV cW H.size a A X (by omega)) (cwV 0 hts gL_law_X5_undo rfl rfl rfl hdX5_undo ⟨Nat.le_of_ble_eq_true rfl, Nat.le_of_ble_eq_true rfl⟩) (pW_V hK hP hP hD 0 3 rfl rfl rfl) rfl rfl hl.1 rfl (lv_room (Nat.le_of_ble_eq_true rfl)) dL_law_60 ⟨Nat.le_of_ble_eq_true rfl, Nat.le_of_ble_eq_true rfl⟩) hS (fun q _ h => hFc q h) hFc (fun r_60 X1 t_ H1 locs ht_ hvm_ hw_ hB_ hz_ hk_ hS => ?_)
      obtain ⟨hP1, -, hD1⟩ := hB_
      rw [ht_] at hP1
      have hP := hP1
      have hD := hD1.weaken (fun _ q _ h => hFc q.1 h)
      clear hP1 hD1 hFc hk_ hz_ hvm_ ht_
      generalize H1 = H at hP hS ⊢
      refine W.widen (k := 600130) (n := 7301080) (Nat.le_of_ble_eq_true rfl) (Nat.le_of_ble_eq_true rfl) ?_
      obtain ⟨hr_, hs1⟩ := hw_
      subst hr_
      have he1 : X1.2.2.1 = X.2.2.1 - 1 := hs1.2.1
      have hG1 := GI.und hG (by omega) hs1
      have hn1 : X1.2.2.1 ≤ 6 := hG1.1
      have hc1 : (X1.1 6).1 ≤ 16 := IV.hc hG1.2.1
      refine lv_pop hx hb dL_law_63 rfl ?_
      refine lv_aload_n hx hb dL_law_64 rfl (lv_at hl 3 rfl) ?_
      have hFc := freeW hD hS hA
      refine va_calli (va_runV (As := []) (rest := []) ⟨hx, hb, hml, hown, hts⟩ (mX_undo l dC dI cI cV cW H.size a A X1 (by omega)) (cwV 0 hts gL_law_X5_undo rfl rfl rfl hdX5_undo ⟨Nat.le_of_ble_eq_true rfl, Nat.le_of_ble_eq_true rfl⟩) (pW_V hK hP hP hD 0 3 rfl rfl rfl) rfl rfl hl.1 rfl (lv_room (Nat.le_of_ble_eq_true rfl)) dL_law_65 ⟨Nat.le_of_ble_eq_true rfl, Nat.le_of_ble_eq_true rfl⟩) hS (fun q _ h => hFc q h) hFc (fun r_65 X2 t_ H1 locs ht_ hvm_ hw_ hB_ hz_ hk_ hS => ?_)
      obtain ⟨hP1, -, hD1⟩ := hB_
      rw [ht_] at hP1
      have hP := hP1
      have hD := hD1.weaken (fun _ q _ h => hFc q.1 h)
      clear hP1 hD1 hFc hk_ hz_ hvm_ ht_
      generalize H1 = H at hP hS ⊢
      refine W.widen (k := 600130) (n := 7301080) (Nat.le_of_ble_eq_true rfl) (Nat.le_of_ble_eq_true rfl) ?_
      obtain ⟨hr_, hs2⟩ := hw_
      subst hr_
      have he2 : X2.2.2.1 = X1.2.2.1 - 1 := hs2.2.1
      have hG2 := GI.und hG1 (by omega) hs2
      have hn2 : X2.2.2.1 ≤ 6 := hG2.1
      have hc2 : (X2.1 6).1 ≤ 16 := IV.hc hG2.2.1
      refine lv_pop hx hb dL_law_68 rfl ?_
      exact seg69 C ht r_34 r_45 (fun X H locs ls h1 h2 h3 => seg198 C ht r_45 kk X H locs ls h1 h2 h3) X2 H locs ls ⟨hP, hD, hS⟩ hG2 ⟨by omega, lv_sub hl [2, 3, 4, 5, 1, 0] rfl⟩
  · refine lv_iconst (v := (nI 0)) hx hb dL_law_26 (by decide) ?_
    refine lv_goto (tgt := 37) hx hb dL_law_27 (by decide) ?_
    refine lv_istore (lv' := [(4, .int (nI 0)), (0, .ref b0), (1, .ref (a 0)), (2, .ref (a 8)), (3, .int (nI t))]) hx hb dL_law_37 hl (by decide) rfl (fun ls hl => ?_)
    refine lv_aload_n hx hb dL_law_39 rfl (lv_at hl 1 rfl) ?_
    refine lv_iconst (v := (nI 2)) hx hb dL_law_40 (by decide) ?_
    refine lv_iload_n hx hb dL_law_41 rfl (lv_at hl 4 rfl) ?_
    refine n_imul hx hb dL_law_42 ?_
    refine lv_iconst (v := (nI 1)) hx hb dL_law_43 (by decide) ?_
    refine n_iadd hx hb dL_law_44 ?_
    refine vp_callSi (W.runS (As := [.ref b0, .int (nI ((2 * t) + 1))]) (rest := []) ⟨hx, hb, hml, hown, hts⟩ (kL_cell l b0 L ((2 * t) + 1) xs hL (by omega)) (va_cwS 2 hts gL_law_L_cell rfl rfl rfl hdL_cell ⟨Nat.le_of_ble_eq_true rfl, Nat.le_of_ble_eq_true rfl⟩) ⟨pX_bl, fun U hU hW => ⟨rfl, by rw [hU]; exact (hX.kept (hS.2.1 b0 hbl hbA)).moved hW.alike, by rw [hU]; exact Nat.lt_of_lt_of_le hbl hS.1⟩⟩ rfl rfl hl.1 rfl (lv_room (Nat.le_of_ble_eq_true rfl)) dL_law_45 ⟨Nat.le_of_ble_eq_true rfl, Nat.le_of_ble_eq_true rfl⟩) (fun r_45 _ => ?_)
    refine lv_istore (lv' := [(5, .int r_45), (4, .int (nI 0)), (0, .ref b0), (1, .ref (a 0)), (2, .ref (a 8)), (3, .int (nI t))]) hx hb dL_law_48 hl (by decide) rfl (fun ls hl => ?_)
    refine lv_aload_n hx hb dL_law_50 rfl (lv_at hl 3 rfl) ?_
    refine vp_callSi (W.runV (As := []) (rest := []) ⟨hx, hb, hml, hown, hts⟩ (kX5_savedStates l dC dI cI cV cW (a 0) (A 6 0) (A 7 0) (a 1) (a 2) (a 7) X.2.2.1) (cwV 0 hts gL_law_X5_savedStates rfl rfl rfl hdX5_savedStates ⟨Nat.le_of_ble_eq_true rfl, Nat.le_of_ble_eq_true rfl⟩) (pR_V hK hP 0 3 rfl rfl rfl [0] rfl) rfl rfl hl.1 rfl (lv_room (Nat.le_of_ble_eq_true rfl)) dL_law_51 ⟨Nat.le_of_ble_eq_true rfl, Nat.le_of_ble_eq_true rfl⟩) (fun r_51 hr_ => ?_)
    subst hr_
    refine lv_bipush (v := (nI 6)) hx hb dL_law_54 (by decide) ?_
    refine n_icmp_ne (tgt := 69) hx hb dL_law_56 (by decide) (by omega) (by omega) (fun c_56 => ?_) (fun c_56 => ?_)
    · exact seg69 C ht (nI 0) r_45 (fun X H locs ls h1 h2 h3 => seg198 C ht r_45 kk X H locs ls h1 h2 h3) X H locs ls ⟨hP, hD, hS⟩ hG ⟨by omega, lv_sub hl [2, 3, 4, 5, 1, 0] rfl⟩
    · refine lv_aload_n hx hb dL_law_59 rfl (lv_at hl 3 rfl) ?_
      have hFc := freeW hD hS hA
      refine va_calli (va_runV (As := []) (rest := []) ⟨hx, hb, hml, hown, hts⟩ (mX_undo l dC dI cI cV cW H.size a A X (by omega)) (cwV 0 hts gL_law_X5_undo rfl rfl rfl hdX5_undo ⟨Nat.le_of_ble_eq_true rfl, Nat.le_of_ble_eq_true rfl⟩) (pW_V hK hP hP hD 0 3 rfl rfl rfl) rfl rfl hl.1 rfl (lv_room (Nat.le_of_ble_eq_true rfl)) dL_law_60 ⟨Nat.le_of_ble_eq_true rfl, Nat.le_of_ble_eq_true rfl⟩) hS (fun q _ h => hFc q h) hFc (fun r_60 X3 t_ H1 locs ht_ hvm_ hw_ hB_ hz_ hk_ hS => ?_)
      obtain ⟨hP1, -, hD1⟩ := hB_
      rw [ht_] at hP1
      have hP := hP1
      have hD := hD1.weaken (fun _ q _ h => hFc q.1 h)
      clear hP1 hD1 hFc hk_ hz_ hvm_ ht_
      generalize H1 = H at hP hS ⊢
      refine W.widen (k := 600130) (n := 7301080) (Nat.le_of_ble_eq_true rfl) (Nat.le_of_ble_eq_true rfl) ?_
      obtain ⟨hr_, hs3⟩ := hw_
      subst hr_
      have he3 : X3.2.2.1 = X.2.2.1 - 1 := hs3.2.1
      have hG3 := GI.und hG (by omega) hs3
      have hn3 : X3.2.2.1 ≤ 6 := hG3.1
      have hc3 : (X3.1 6).1 ≤ 16 := IV.hc hG3.2.1
      refine lv_pop hx hb dL_law_63 rfl ?_
      refine lv_aload_n hx hb dL_law_64 rfl (lv_at hl 3 rfl) ?_
      have hFc := freeW hD hS hA
      refine va_calli (va_runV (As := []) (rest := []) ⟨hx, hb, hml, hown, hts⟩ (mX_undo l dC dI cI cV cW H.size a A X3 (by omega)) (cwV 0 hts gL_law_X5_undo rfl rfl rfl hdX5_undo ⟨Nat.le_of_ble_eq_true rfl, Nat.le_of_ble_eq_true rfl⟩) (pW_V hK hP hP hD 0 3 rfl rfl rfl) rfl rfl hl.1 rfl (lv_room (Nat.le_of_ble_eq_true rfl)) dL_law_65 ⟨Nat.le_of_ble_eq_true rfl, Nat.le_of_ble_eq_true rfl⟩) hS (fun q _ h => hFc q h) hFc (fun r_65 X4 t_ H1 locs ht_ hvm_ hw_ hB_ hz_ hk_ hS => ?_)
      obtain ⟨hP1, -, hD1⟩ := hB_
      rw [ht_] at hP1
      have hP := hP1
      have hD := hD1.weaken (fun _ q _ h => hFc q.1 h)
      clear hP1 hD1 hFc hk_ hz_ hvm_ ht_
      generalize H1 = H at hP hS ⊢
      refine W.widen (k := 600130) (n := 7301080) (Nat.le_of_ble_eq_true rfl) (Nat.le_of_ble_eq_true rfl) ?_
      obtain ⟨hr_, hs4⟩ := hw_
      subst hr_
      have he4 : X4.2.2.1 = X3.2.2.1 - 1 := hs4.2.1
      have hG4 := GI.und hG3 (by omega) hs4
      have hn4 : X4.2.2.1 ≤ 6 := hG4.1
      have hc4 : (X4.1 6).1 ≤ 16 := IV.hc hG4.2.1
      refine lv_pop hx hb dL_law_68 rfl ?_
      exact seg69 C ht (nI 0) r_45 (fun X H locs ls h1 h2 h3 => seg198 C ht r_45 kk X H locs ls h1 h2 h3) X4 H locs ls ⟨hP, hD, hS⟩ hG4 ⟨by omega, lv_sub hl [2, 3, 4, 5, 1, 0] rfl⟩
theorem law_run (C : LC0 p l s m args c b0 L xs dC dI cI cV cW) (kend : ∀ (H : Heap) (locs : List Loc) (ls : Array Slot), va_S (Fr s) s.heap H locs → W p l e room_1 s m args below meth c H locs 600130 7301080 Q (F0 m 265 ls [])) : ∀ (d t : Nat), t + d = 36 → ∀ (X : XS) (H : Heap) (locs : List Loc) (ls : Array Slot), LSt s dC dI cI cV cW a A X H locs → GI t X → lv_has ls 12 [(0, .ref b0), (1, .ref (a 0)), (2, .ref (a 8)), (3, .int (nI t))] → W p l e room_1 s m args below meth c H locs 600130 7301080 Q (F0 m 15 ls [])
  | 0, t, h => by
    obtain ⟨hx, hb, hml, hown, hts, hX, hbl, hL, hK⟩ := id C
    intro X H locs ls hLS hG hl
    have ht : t = 36 := by omega
    subst ht
    refine lv_iload_n hx hb dL_law_15 rfl (lv_at hl 3 rfl) ?_
    refine lv_bipush (v := nI 36) hx hb dL_law_16 (by decide) ?_
    exact n_icmp_ge (tgt := 265) hx hb dL_law_18 (by decide) (by omega) (by omega) (fun _ => kend H locs ls hLS.2.2) (fun q => absurd q (by omega))
  | d + 1, t, h => seg15 C (show t < 36 by omega) (law_run C kend d (t + 1) (by omega))
end LAWTURN
