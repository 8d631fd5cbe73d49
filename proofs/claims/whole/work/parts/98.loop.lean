section LAWCASESL
variable {p : Program} {l : Launch} {e : Env} {s : State} {m : MethodId} {args : Array Value} {below : List Frame} {meth : Method} {c : Code} {H : Heap} {locs : List Loc} {cells slots : Nat} {Q : State → Prop} {ls : Array Slot}
variable {dC : Nat → ClassId} {dI : Nat → Nat → Nat} {cI cV cW cL : ClassId} {wa sw : Nat} {ad aK aV : Nat → Nat} {sa : Nat → Nat} {a : Nat → Nat} {A : Nat → Nat → Nat} {b0 L i : Nat} {xs : Nat → Int32} {X : XS} {M : MS} {ou : Nat → Int64}
theorem law_head (C : LC0 p l s m args c b0 L xs dC dI cI cV cW cL wa sw ad aK aV sa) (hS : va_S (Fr s) s.heap H locs) (hl : lv_has ls 9 [(4, .int (nI i)), (3, .ref (a 14)), (2, .ref (a 8)), (1, .ref (a 0)), (0, .ref b0)]) (hi : i ≤ L) (k0 : L < i + 4 → W p l e room_1 s m args below meth c H locs cells slots Q (F0 m 1467 ls [])) (k1 : i + 3 < L → W p l e room_1 s m args below meth c H locs cells slots Q (F0 m 32 ls [])) : W p l e room_1 s m args below meth c H locs cells slots Q (F0 m 23 ls []) := by
  obtain ⟨hx, hb, hml, hown, hts, hX, hbl, hL, hK, hIm, hNw, hXm, hC3, hlt⟩ := C
  have hbA : ¬ Fr s b0 := Nat.not_le.mpr hbl
  have e1 : (nI i).toInt = (i : Int) := nI_toInt (by omega)
  have e2 : (nI L - nI 4).toInt = (L : Int) - 4 := by
    rw [i_sub (by rw [nI_toInt (by omega)]; omega) (by rw [nI_toInt (by omega)]; omega), nI_toInt (by omega), nI_toInt (by omega)]; rfl
  refine lv_iload hx hb dL_law_23 (lv_at hl 0 rfl) ?_
  refine lv_aload_n hx hb dL_law_25 rfl (lv_at hl 4 rfl) ?_
  refine va_slen hx hb hX hbl hbA hS dL_law_26 ?_
  refine lv_iconst (v := nI 4) hx hb dL_law_27 (by decide) ?_
  refine lv_isub hx hb dL_law_28 ?_
  refine lv_icmp_gt (tgt := 1467) hx hb dL_law_29 (by decide) (fun q => k0 ?_) (fun q => k1 ?_)
  · have q2 : nI L - nI 4 < nI i := q
    rw [i_lt, e1, e2] at q2
    omega
  · have q2 : ¬ nI L - nI 4 < nI i := q
    rw [i_lt, e1, e2] at q2
    omega
set_option maxHeartbeats 4000000 in
set_option maxRecDepth 100000 in
theorem law_sw (C : LC0 p l s m args c b0 L xs dC dI cI cV cW cL wa sw ad aK aV sa) (hi : i + 3 < L) (hcl : cells + 3 ≤ 601024) (hsl : slots + 18 ≤ 7293034) (h : LST s dC dI cI cV cW cL a A X M ou H locs b0 i ls) (kk : ∀ (A : Nat → Nat → Nat) (X : XS) (M : MS) (ou : Nat → Int64) (H : Heap) (locs : List Loc) (ls : Array Slot), LST s dC dI cI cV cW cL a A X M ou H locs b0 i ls → W p l e room_1 s m args below meth c H locs (cells + 3) (slots + 18) Q (F0 m 1461 ls [])) : W p l e room_1 s m args below meth c H locs cells slots Q (F0 m 32 ls []) := by
  obtain ⟨hx, hb, hml, hown, hts, hX, hbl, hL, hK, hIm, hNw, hXm, hC3, hlt⟩ := id C
  obtain ⟨hP, hD, hS, hI, hl⟩ := id h
  have hbA : ¬ Fr s b0 := Nat.not_le.mpr hbl
  refine lv_aload_n hx hb dL_law_32 rfl (lv_at hl 4 rfl) ?_
  refine lv_iload hx hb dL_law_33 (lv_at hl 0 rfl) ?_
  refine va_sld hx hb hX hbl hbA hS (vp_in_nI (by omega) (by omega)) dL_law_35 ?_
  refine lv_bipush (v := 31) hx hb dL_law_36 (by decide) ?_
  refine lv_iand hx hb dL_law_38 ?_
  obtain ⟨k, hk, ek⟩ : ∃ k : Nat, k < 32 ∧ xs (nI i).toNatClampNeg &&& 31 = nI k := ⟨_, Nat.mod_lt _ (by decide), pk_and (xs (nI i).toNatClampNeg) (m := 31) 5 (by decide)⟩
  rw [ek]
  rcases (show k = 0 ∨ k = 1 ∨ k = 2 ∨ k = 3 ∨ k = 4 ∨ k = 5 ∨ k = 6 ∨ k = 7 ∨ k = 8 ∨ k = 9 ∨ k = 10 ∨ k = 11 ∨ k = 12 ∨ k = 13 ∨ k = 14 ∨ k = 15 ∨ k = 16 ∨ k = 17 ∨ k = 18 ∨ k = 19 ∨ k = 20 ∨ k = 21 ∨ k = 22 ∨ k = 23 ∨ k = 24 ∨ k = 25 ∨ k = 26 ∨ k = 27 ∨ k = 28 ∨ k = 29 ∨ k = 30 ∨ k = 31 by omega) with rfl | rfl | rfl | rfl | rfl | rfl | rfl | rfl | rfl | rfl | rfl | rfl | rfl | rfl | rfl | rfl | rfl | rfl | rfl | rfl | rfl | rfl | rfl | rfl | rfl | rfl | rfl | rfl | rfl | rfl | rfl | rfl
  · exact lv_tableIn (off := 137) (tgt := 176) hx hb dL_law_39 (by decide) (by decide) (by decide) (by decide) (LC_setShelf C hi hcl hsl h kk)
  · exact lv_tableIn (off := 217) (tgt := 256) hx hb dL_law_39 (by decide) (by decide) (by decide) (by decide) (LC_addRecord C hi hcl hsl h kk)
  · exact lv_tableIn (off := 285) (tgt := 324) hx hb dL_law_39 (by decide) (by decide) (by decide) (by decide) (LC_removeRecord C hi hcl hsl h kk)
  · exact lv_tableIn (off := 341) (tgt := 380) hx hb dL_law_39 (by decide) (by decide) (by decide) (by decide) (LC_records C hi hcl hsl h kk)
  · exact lv_tableIn (off := 354) (tgt := 393) hx hb dL_law_39 (by decide) (by decide) (by decide) (by decide) (LC_width C hi hcl hsl h kk)
  · exact lv_tableIn (off := 410) (tgt := 449) hx hb dL_law_39 (by decide) (by decide) (by decide) (by decide) (LC_shelfOf C hi hcl hsl h kk)
  · exact lv_tableIn (off := 466) (tgt := 505) hx hb dL_law_39 (by decide) (by decide) (by decide) (by decide) (LC_catalog C hi hcl hsl h kk)
  · exact lv_tableIn (off := 522) (tgt := 561) hx hb dL_law_39 (by decide) (by decide) (by decide) (by decide) (LC_weight C hi hcl hsl h kk)
  · exact lv_tableIn (off := 578) (tgt := 617) hx hb dL_law_39 (by decide) (by decide) (by decide) (by decide) (LC_free C hi hcl hsl h kk)
  · exact lv_tableIn (off := 634) (tgt := 673) hx hb dL_law_39 (by decide) (by decide) (by decide) (by decide) (LC_reach C hi hcl hsl h kk)
  · exact lv_tableIn (off := 690) (tgt := 729) hx hb dL_law_39 (by decide) (by decide) (by decide) (by decide) (LC_call C hi hcl hsl h kk)
  · exact lv_tableIn (off := 746) (tgt := 785) hx hb dL_law_39 (by decide) (by decide) (by decide) (by decide) (LC_misplace C hi hcl hsl h kk)
  · exact lv_tableIn (off := 814) (tgt := 853) hx hb dL_law_39 (by decide) (by decide) (by decide) (by decide) (LC_month C hi hcl hsl h kk)
  · exact lv_tableIn (off := 827) (tgt := 866) hx hb dL_law_39 (by decide) (by decide) (by decide) (by decide) (LC_misplaced C hi hcl hsl h kk)
  · exact lv_tableIn (off := 840) (tgt := 879) hx hb dL_law_39 (by decide) (by decide) (by decide) (by decide) (LC_walked C hi hcl hsl h kk)
  · exact lv_tableIn (off := 853) (tgt := 892) hx hb dL_law_39 (by decide) (by decide) (by decide) (by decide) (LC_night C hi hcl hsl h kk)
  · exact lv_tableIn (off := 909) (tgt := 948) hx hb dL_law_39 (by decide) (by decide) (by decide) (by decide) (LC_cost C hi hcl hsl h kk)
  · exact lv_tableIn (off := 922) (tgt := 961) hx hb dL_law_39 (by decide) (by decide) (by decide) (by decide) (LC_steps C hi hcl hsl h kk)
  · exact lv_tableIn (off := 935) (tgt := 974) hx hb dL_law_39 (by decide) (by decide) (by decide) (by decide) (LC_reason C hi hcl hsl h kk)
  · exact lv_tableIn (off := 1003) (tgt := 1042) hx hb dL_law_39 (by decide) (by decide) (by decide) (by decide) (LC_bestGain C hi hcl hsl h kk)
  · exact lv_tableIn (off := 1016) (tgt := 1055) hx hb dL_law_39 (by decide) (by decide) (by decide) (by decide) (LC_costAfterNight C hi hcl hsl h kk)
  · exact lv_tableIn (off := 1072) (tgt := 1111) hx hb dL_law_39 (by decide) (by decide) (by decide) (by decide) (LC_walkTo C hi hcl hsl h kk)
  · exact lv_tableIn (off := 1128) (tgt := 1167) hx hb dL_law_39 (by decide) (by decide) (by decide) (by decide) (LC_shelfFor C hi hcl hsl h kk)
  · exact lv_tableIn (off := 1184) (tgt := 1223) hx hb dL_law_39 (by decide) (by decide) (by decide) (by decide) (LC_fullness C hi hcl hsl h kk)
  · exact lv_tableIn (off := 1225) (tgt := 1264) hx hb dL_law_39 (by decide) (by decide) (by decide) (by decide) (LC_append C hi hcl hsl h kk)
  · exact lv_tableIn (off := 1281) (tgt := 1320) hx hb dL_law_39 (by decide) (by decide) (by decide) (by decide) (LC_clearText C hi hcl hsl h kk)
  · exact lv_tableIn (off := 1294) (tgt := 1333) hx hb dL_law_39 (by decide) (by decide) (by decide) (by decide) (LC_firstError C hi hcl hsl h kk)
  · exact lv_tableIn (off := 1307) (tgt := 1346) hx hb dL_law_39 (by decide) (by decide) (by decide) (by decide) (LC_run C hi hcl hsl h kk)
  · exact lv_tableIn (off := 1351) (tgt := 1390) hx hb dL_law_39 (by decide) (by decide) (by decide) (by decide) (LC_undo C hi hcl hsl h kk)
  · exact lv_tableIn (off := 1395) (tgt := 1434) hx hb dL_law_39 (by decide) (by decide) (by decide) (by decide) (LC_savedStates C hi hcl hsl h kk)
  · exact lv_tableIn (off := 1408) (tgt := 1447) hx hb dL_law_39 (by decide) (by decide) (by decide) (by decide) (LC_digest C hi hcl hsl h kk)
  · exact lv_tableOut (tgt := 1461) hx hb dL_law_39 (by decide) (by decide) (W.widen (k := cells + 3) (n := slots + 18) (by omega) (by omega) (kk A X M ou H locs ls h))
theorem law_loop (C : LC0 p l s m args c b0 L xs dC dI cI cV cW cL wa sw ad aK aV sa) (hend : ∀ (cells slots : Nat) (H : Heap) (locs : List Loc) (ls : Array Slot), cells ≤ 601024 → slots ≤ 7293034 → va_S (Fr s) s.heap H locs → W p l e room_1 s m args below meth c H locs cells slots Q (F0 m 1467 ls [])) :
    ∀ (n i cells slots : Nat) (A : Nat → Nat → Nat) (X : XS) (M : MS) (ou : Nat → Int64) (H : Heap) (locs : List Loc) (ls : Array Slot), LST s dC dI cI cV cW cL a A X M ou H locs b0 i ls → i ≤ L → L ≤ i + 4 * n → cells + 3 * n ≤ 601024 → slots + 18 * n ≤ 7293034 → W p l e room_1 s m args below meth c H locs cells slots Q (F0 m 23 ls []) := by
  obtain ⟨hx, hb, -⟩ := id C
  intro n
  induction n with
  | zero =>
    intro i cells slots A X M ou H locs ls h h1 h2 h3 h4
    exact law_head C h.2.2.1 h.2.2.2.2 h1 (fun _ => hend _ _ _ _ _ (by omega) (by omega) h.2.2.1) (fun q => absurd q (by omega))
  | succ n ih =>
    intro i cells slots A X M ou H locs ls h h1 h2 h3 h4
    refine law_head C h.2.2.1 h.2.2.2.2 h1 (fun _ => hend _ _ _ _ _ (by omega) (by omega) h.2.2.1) (fun q => ?_)
    refine law_sw C q (by omega) (by omega) h (fun A X M ou H locs ls h => ?_)
    refine lv_iinc (v := nI (i + 4)) (lv' := [(4, .int (nI (i + 4))), (3, .ref (a 14)), (2, .ref (a 8)), (1, .ref (a 0)), (0, .ref b0)]) hx hb dL_law_1461 h.2.2.2.2 (k := 0) rfl (by rw [← nI_add]; rfl) (by decide) rfl (fun ls hl => ?_)
    refine lv_goto (tgt := 23) hx hb dL_law_1464 (by decide) ?_
    exact ih (i + 4) _ _ A X M ou H locs ls ⟨h.1, h.2.1, h.2.2.1, h.2.2.2.1, hl⟩ (by omega) (by omega) (by omega) (by omega)
end LAWCASESL
