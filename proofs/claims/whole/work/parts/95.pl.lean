abbrev INV (X : XS) (M : MS) : Prop := RK (M.2.2.2.2.2.2.2.2 0) (X.1 6) ∧ X.2.2.1 ≤ 6 ∧ M.2.1 = X.2.2.1 ∧ SR (M.2.2.2.2.2.2.2.2 2) X.1 X.2.2.1 ∧ X.2.2.2.1 ≤ 60 ∧ M.2.2.1 = X.2.2.2.1 ∧ M.2.2.2.2.2.2.2.2 3 = X.2.2.2.2.2.2.1
theorem out0 {ou : Nat → Int64} {v : Int64} : vp_updL ou (nI 0).toNatClampNeg v 0 = v := by
  rw [nI_clamp (by decide)]; rfl
theorem out9 {ou : Nat → Int64} {x y : Int32} (h : x = y) : vp_updL ou (nI 0).toNatClampNeg x.toInt64 0 = y.toInt64 := by rw [h]; exact out0
theorem cdSet_0 {S : Nat → Int32} {cn : Nat} {x y z : Int32} (h : cdSet S cn x y z = 0) : sIn x 0 5 = true ∧ sIn y 10 99 = true ∧ sIn z 1 99 = true := by
  unfold cdSet at h
  split at h
  · rename_i h1
    split at h
    · rename_i h2; exact ⟨h1, h2.1, h2.2⟩
    · exact absurd h (by decide)
  · exact absurd h (by decide)
theorem cdApp_0 {n : Nat} {x : Int32} (h : cdApp n x = 0) : ¬ n = 60 := by
  unfold cdApp at h
  split at h
  · split at h
    · exact absurd h (by decide)
    · assumption
  · exact absurd h (by decide)
theorem PL_setShelf {A : Nat → Nat → Nat} {K : Nat → VS} {b : CS} {n : Nat} {T : TS} {th : Int32} {sm ln : Nat} {at_ : Int32} {wl : Bool} {rm : Int32} {q : BS} {ha : Int64} {Rw : Nat → Nat → Int32} {ou : Nat → Int64} {y z u : Int32} {r_ : Int32} {w9 : HU} (hI : INV (K, b, n, T) (th, sm, ln, at_, wl, rm, q, ha, Rw)) (hp : (r_ = nI 0 ∧ ∃ v9 : Int32, (v9 = upd ((K 6).2.2.2 0) (ix y) z (ix y) - ((K 6).2.2.2 2) (ix y) ∧ cxSet ((K 6).2.2.2 2) y z u = 0) ∧ w9 = ((svA n A), (setK (svK n K) 6 (((K 6).1), ((K 6).2.1), ((K 6).2.2.1), mk8 (upd ((K 6).2.2.2 0) (ix y) z) (upd ((K 6).2.2.2 1) (ix y) u) ((K 6).2.2.2 2) ((K 6).2.2.2 3) ((K 6).2.2.2 4) ((K 6).2.2.2 5) ((K 6).2.2.2 6) ((K 6).2.2.2 7)), b, svN n, T), vp_updL ou (nI 0).toNatClampNeg v9.toInt64)) ∨ (((cxSet ((K 6).2.2.2 2) y z u = 1 ∧ r_ = nI 1) ∨ (cxSet ((K 6).2.2.2 2) y z u = 2 ∧ r_ = nI 2) ∨ (cxSet ((K 6).2.2.2 2) y z u = 3 ∧ r_ = nI 3)) ∧ w9 = (A, (K, b, n, T), ou))) : r_ = (nI (cdSet (Rw 0) (K 6).1 y z u)) ∧ (r_ = nI 0 → w9.2.2 0 = ((if cdSet (Rw 0) (K 6).1 y z u = 0 then sRm (fSet (Rw 0) (ix y) z u) (K 6).1 (ix y) else 0)).toInt64) ∧ INV w9.2.1 ((nI (cdSet (Rw 0) (K 6).1 y z u)), if cdSet (Rw 0) (K 6).1 y z u = 0 then svN sm else sm, ln, at_, wl, rm, q, ha, mk5 (if cdSet (Rw 0) (K 6).1 y z u = 0 then fSet (Rw 0) (ix y) z u else (Rw 0)) (Rw 1) (if cdSet (Rw 0) (K 6).1 y z u = 0 then svV (Rw 0) (Rw 2) sm else (Rw 2)) (Rw 3) (Rw 4)) := by
  have hI0 := hI
  obtain ⟨hk, hn, hsm, hs, hnn, hln, hB⟩ := hI
  have h : RV (Rw 0) (K 6).1 (K 6).2.1 (K 6).2.2.1 ((K 6).2.2.2 0) ((K 6).2.2.2 1) ((K 6).2.2.2 2) ((K 6).2.2.2 3) ((K 6).2.2.2 4) ((K 6).2.2.2 5) ((K 6).2.2.2 6) ((K 6).2.2.2 7) := hk
  have hsm : sm = n := hsm
  subst hsm
  have hs : SR (Rw 2) K sm := hs
  have hnn : T.1 ≤ 60 := hnn
  have hln : ln = T.1 := hln
  have hB : Rw 3 = T.2.2.2.1 := hB
  have hn : sm ≤ 6 := hn
  have eq9 : cxSet ((K 6).2.2.2 2) y z u = cdSet (Rw 0) (K 6).1 y z u := cxSet_eq h
  rcases hp with ⟨rfl, v, ⟨rfl, hc⟩, rfl⟩ | ⟨⟨hc, rfl⟩ | ⟨hc, rfl⟩ | ⟨hc, rfl⟩, rfl⟩
  · have e : cdSet (Rw 0) (K 6).1 y z u = 0 := eq9.symm.trans hc
    have c0 := cdSet_0 e
    have hr := sh_ok c0.1
    repeat rw [if_pos e]
    rw [e]
    exact ⟨rfl, fun _ => out9 (ou := ou) ((h.set hr.2 c0.2.1 c0.2.2).free hr.2), ⟨h.set hr.2 c0.2.1 c0.2.2, svN_le hn, rfl, (SR.save hn hs hk).set6 (svN_le hn) (Nat.le_refl _) (Nat.le_refl _), hnn, hln, hB⟩⟩
  · have e : cdSet (Rw 0) (K 6).1 y z u = 1 := eq9.symm.trans hc
    have ne : ¬ cdSet (Rw 0) (K 6).1 y z u = 0 := by rw [e]; decide
    repeat rw [if_neg ne]
    rw [e]
    exact ⟨rfl, fun q => absurd q (by decide), hI0⟩
  · have e : cdSet (Rw 0) (K 6).1 y z u = 2 := eq9.symm.trans hc
    have ne : ¬ cdSet (Rw 0) (K 6).1 y z u = 0 := by rw [e]; decide
    repeat rw [if_neg ne]
    rw [e]
    exact ⟨rfl, fun q => absurd q (by decide), hI0⟩
  · have e : cdSet (Rw 0) (K 6).1 y z u = 3 := eq9.symm.trans hc
    have ne : ¬ cdSet (Rw 0) (K 6).1 y z u = 0 := by rw [e]; decide
    repeat rw [if_neg ne]
    rw [e]
    exact ⟨rfl, fun q => absurd q (by decide), hI0⟩
theorem PL_addRecord {A : Nat → Nat → Nat} {K : Nat → VS} {b : CS} {n : Nat} {T : TS} {th : Int32} {sm ln : Nat} {at_ : Int32} {wl : Bool} {rm : Int32} {q : BS} {ha : Int64} {Rw : Nat → Nat → Int32} {ou : Nat → Int64} {y z : Int32} {r_ : Int32} {w9 : HU} (hI : INV (K, b, n, T) (th, sm, ln, at_, wl, rm, q, ha, Rw)) (hp : (r_ = nI 0 ∧ ∃ v9 : Int32, (v9 = nI ((K 6).1) ∧ cxAdd ((K 6).2.2.2 0) ((K 6).2.2.2 2) ((K 6).1) y z = 0) ∧ w9 = ((svA n A), (setK (svK n K) 6 (((K 6).1) + 1, ((K 6).2.1), ((K 6).2.2.1), mk8 ((K 6).2.2.2 0) ((K 6).2.2.2 1) (upd ((K 6).2.2.2 2) (ix z) (((K 6).2.2.2 2) (ix z) + y)) (upd ((K 6).2.2.2 3) ((K 6).1) y) (upd ((K 6).2.2.2 4) ((K 6).1) (nI (ix z))) (upd ((K 6).2.2.2 5) ((K 6).1) (nI (ix z))) (upd ((K 6).2.2.2 6) ((K 6).1) 0) (upd ((K 6).2.2.2 7) ((K 6).1) 0)), b, svN n, T), vp_updL ou (nI 0).toNatClampNeg v9.toInt64)) ∨ (((cxAdd ((K 6).2.2.2 0) ((K 6).2.2.2 2) ((K 6).1) y z = 1 ∧ r_ = nI 1) ∨ (cxAdd ((K 6).2.2.2 0) ((K 6).2.2.2 2) ((K 6).1) y z = 2 ∧ r_ = nI 2) ∨ (cxAdd ((K 6).2.2.2 0) ((K 6).2.2.2 2) ((K 6).1) y z = 3 ∧ r_ = nI 3)) ∧ w9 = (A, (K, b, n, T), ou))) : r_ = (nI (cdAdd (Rw 0) (K 6).1 y z)) ∧ (r_ = nI 0 → w9.2.2 0 = ((if cdAdd (Rw 0) (K 6).1 y z = 0 then nI (K 6).1 else 0)).toInt64) ∧ INV w9.2.1 ((nI (cdAdd (Rw 0) (K 6).1 y z)), if cdAdd (Rw 0) (K 6).1 y z = 0 then svN sm else sm, ln, at_, wl, rm, q, ha, mk5 (if cdAdd (Rw 0) (K 6).1 y z = 0 then fAdds (Rw 0) (K 6).1 y z else (Rw 0)) (Rw 1) (if cdAdd (Rw 0) (K 6).1 y z = 0 then svV (Rw 0) (Rw 2) sm else (Rw 2)) (Rw 3) (Rw 4)) := by
  have hI0 := hI
  obtain ⟨hk, hn, hsm, hs, hnn, hln, hB⟩ := hI
  have h : RV (Rw 0) (K 6).1 (K 6).2.1 (K 6).2.2.1 ((K 6).2.2.2 0) ((K 6).2.2.2 1) ((K 6).2.2.2 2) ((K 6).2.2.2 3) ((K 6).2.2.2 4) ((K 6).2.2.2 5) ((K 6).2.2.2 6) ((K 6).2.2.2 7) := hk
  have hsm : sm = n := hsm
  subst hsm
  have hs : SR (Rw 2) K sm := hs
  have hnn : T.1 ≤ 60 := hnn
  have hln : ln = T.1 := hln
  have hB : Rw 3 = T.2.2.2.1 := hB
  have hn : sm ≤ 6 := hn
  have eq9 : cxAdd ((K 6).2.2.2 0) ((K 6).2.2.2 2) (K 6).1 y z = cdAdd (Rw 0) (K 6).1 y z := cxAdd_eq h
  rcases hp with ⟨rfl, v, ⟨rfl, hc⟩, rfl⟩ | ⟨⟨hc, rfl⟩ | ⟨hc, rfl⟩ | ⟨hc, rfl⟩, rfl⟩
  · have e : cdAdd (Rw 0) (K 6).1 y z = 0 := eq9.symm.trans hc
    have c0 := cdAdd_0 e
    repeat rw [if_pos e]
    rw [e]
    exact ⟨rfl, fun _ => out9 (ou := ou) (rfl), ⟨h.adds (by have := h.hc; have := c0.2.2.1; omega) c0.2.1 (Ok6_of c0.1), svN_le hn, rfl, (SR.save hn hs hk).set6 (svN_le hn) (Nat.le_refl _) (Nat.le_refl _), hnn, hln, hB⟩⟩
  · have e : cdAdd (Rw 0) (K 6).1 y z = 1 := eq9.symm.trans hc
    have ne : ¬ cdAdd (Rw 0) (K 6).1 y z = 0 := by rw [e]; decide
    repeat rw [if_neg ne]
    rw [e]
    exact ⟨rfl, fun q => absurd q (by decide), hI0⟩
  · have e : cdAdd (Rw 0) (K 6).1 y z = 2 := eq9.symm.trans hc
    have ne : ¬ cdAdd (Rw 0) (K 6).1 y z = 0 := by rw [e]; decide
    repeat rw [if_neg ne]
    rw [e]
    exact ⟨rfl, fun q => absurd q (by decide), hI0⟩
  · have e : cdAdd (Rw 0) (K 6).1 y z = 3 := eq9.symm.trans hc
    have ne : ¬ cdAdd (Rw 0) (K 6).1 y z = 0 := by rw [e]; decide
    repeat rw [if_neg ne]
    rw [e]
    exact ⟨rfl, fun q => absurd q (by decide), hI0⟩
theorem PL_removeRecord {A : Nat → Nat → Nat} {K : Nat → VS} {b : CS} {n : Nat} {T : TS} {th : Int32} {sm ln : Nat} {at_ : Int32} {wl : Bool} {rm : Int32} {q : BS} {ha : Int64} {Rw : Nat → Nat → Int32} {ou : Nat → Int64} {y : Int32} {r_ : Int32} {w9 : HU} (hI : INV (K, b, n, T) (th, sm, ln, at_, wl, rm, q, ha, Rw)) (hp : (r_ = nI 0 ∧ ∃ v9 : Int32, (v9 = ((K 6).2.2.2 4) (ix y) ∧ sHas y ((K 6).1) = true) ∧ w9 = ((svA n A), (setK (svK n K) 6 (((K 6).1) - 1, ((K 6).2.1), ((K 6).2.2.1), mk8 ((K 6).2.2.2 0) ((K 6).2.2.2 1) (upd ((K 6).2.2.2 2) (ix (((K 6).2.2.2 4) (ix y))) (((K 6).2.2.2 2) (ix (((K 6).2.2.2 4) (ix y))) - ((K 6).2.2.2 3) (ix y))) (fShf ((K 6).2.2.2 3) (ix y) (((K 6).1) - 1 - ix y)) (fShf ((K 6).2.2.2 4) (ix y) (((K 6).1) - 1 - ix y)) (fShf ((K 6).2.2.2 5) (ix y) (((K 6).1) - 1 - ix y)) (fShf ((K 6).2.2.2 6) (ix y) (((K 6).1) - 1 - ix y)) (fShf ((K 6).2.2.2 7) (ix y) (((K 6).1) - 1 - ix y))), b, svN n, T), vp_updL ou (nI 0).toNatClampNeg v9.toInt64)) ∨ (((sHas y ((K 6).1) = false ∧ r_ = nI 1)) ∧ w9 = (A, (K, b, n, T), ou))) : r_ = (nI (if sIn y 0 ((Rw 0) 0 - 1) = true then 0 else 1)) ∧ (r_ = nI 0 → w9.2.2 0 = ((if sIn y 0 ((Rw 0) 0 - 1) = true then gW (Rw 0) 1 (ix y) else 0)).toInt64) ∧ INV w9.2.1 ((nI (if sIn y 0 ((Rw 0) 0 - 1) = true then 0 else 1)), if sIn y 0 ((Rw 0) 0 - 1) = true then svN sm else sm, ln, at_, wl, rm, q, ha, mk5 (if sIn y 0 ((Rw 0) 0 - 1) = true then fRem (Rw 0) (K 6).1 (ix y) else (Rw 0)) (Rw 1) (if sIn y 0 ((Rw 0) 0 - 1) = true then svV (Rw 0) (Rw 2) sm else (Rw 2)) (Rw 3) (Rw 4)) := by
  have hI0 := hI
  obtain ⟨hk, hn, hsm, hs, hnn, hln, hB⟩ := hI
  have h : RV (Rw 0) (K 6).1 (K 6).2.1 (K 6).2.2.1 ((K 6).2.2.2 0) ((K 6).2.2.2 1) ((K 6).2.2.2 2) ((K 6).2.2.2 3) ((K 6).2.2.2 4) ((K 6).2.2.2 5) ((K 6).2.2.2 6) ((K 6).2.2.2 7) := hk
  have hsm : sm = n := hsm
  subst hsm
  have hs : SR (Rw 2) K sm := hs
  have hnn : T.1 ≤ 60 := hnn
  have hln : ln = T.1 := hln
  have hB : Rw 3 = T.2.2.2.1 := hB
  have hn : sm ≤ 6 := hn
  rcases hp with ⟨rfl, v, ⟨rfl, hc⟩, rfl⟩ | ⟨⟨hc, rfl⟩, rfl⟩
  · have e : sIn y 0 (Rw 0 0 - 1) = true := (has_in h.ro).symm.trans hc
    have hr := (has_ok h.hc hc).2
    repeat rw [if_pos e]
    exact ⟨rfl, fun _ => out9 (ou := ou) (h.hP _ hr), ⟨h.rem hr, svN_le hn, rfl, (SR.save hn hs hk).set6 (svN_le hn) (Nat.le_refl _) (Nat.le_refl _), hnn, hln, hB⟩⟩
  · have e : ¬ sIn y 0 (Rw 0 0 - 1) = true := by rw [← has_in h.ro, hc]; decide
    repeat rw [if_neg e]
    exact ⟨rfl, fun q => absurd q (by decide), hI0⟩
theorem PL_width {A : Nat → Nat → Nat} {K : Nat → VS} {b : CS} {n : Nat} {T : TS} {th : Int32} {sm ln : Nat} {at_ : Int32} {wl : Bool} {rm : Int32} {q : BS} {ha : Int64} {Rw : Nat → Nat → Int32} {ou : Nat → Int64} {y : Int32} {r_ : Int32} {w9 : HU} (hI : INV (K, b, n, T) (th, sm, ln, at_, wl, rm, q, ha, Rw)) (hp : (r_ = nI 0 ∧ ∃ v9 : Int32, (v9 = ((K 6).2.2.2 3) (ix y) ∧ sHas y ((K 6).1) = true) ∧ w9 = (A, (K, b, n, T), vp_updL ou (nI 0).toNatClampNeg v9.toInt64)) ∨ (((sHas y ((K 6).1) = false ∧ r_ = nI 1)) ∧ w9 = (A, (K, b, n, T), ou))) : r_ = (nI (if sIn y 0 ((Rw 0) 0 - 1) = true then 0 else 1)) ∧ (r_ = nI 0 → w9.2.2 0 = ((if sIn y 0 ((Rw 0) 0 - 1) = true then gW (Rw 0) 0 (ix y) else 0)).toInt64) ∧ INV w9.2.1 ((nI (if sIn y 0 ((Rw 0) 0 - 1) = true then 0 else 1)), sm, ln, at_, wl, rm, q, ha, Rw) := by
  have hI0 := hI
  obtain ⟨hk, hn, hsm, hs, hnn, hln, hB⟩ := hI
  have h : RV (Rw 0) (K 6).1 (K 6).2.1 (K 6).2.2.1 ((K 6).2.2.2 0) ((K 6).2.2.2 1) ((K 6).2.2.2 2) ((K 6).2.2.2 3) ((K 6).2.2.2 4) ((K 6).2.2.2 5) ((K 6).2.2.2 6) ((K 6).2.2.2 7) := hk
  have hsm : sm = n := hsm
  subst hsm
  have hs : SR (Rw 2) K sm := hs
  have hnn : T.1 ≤ 60 := hnn
  have hln : ln = T.1 := hln
  have hB : Rw 3 = T.2.2.2.1 := hB
  have hn : sm ≤ 6 := hn
  rcases hp with ⟨rfl, v, ⟨rfl, hc⟩, rfl⟩ | ⟨⟨hc, rfl⟩, rfl⟩
  · have e : sIn y 0 (Rw 0 0 - 1) = true := (has_in h.ro).symm.trans hc
    have hr := (has_ok h.hc hc).2
    repeat rw [if_pos e]
    exact ⟨rfl, fun _ => out9 (ou := ou) (h.hW _ hr), hI0⟩
  · have e : ¬ sIn y 0 (Rw 0 0 - 1) = true := by rw [← has_in h.ro, hc]; decide
    repeat rw [if_neg e]
    exact ⟨rfl, fun q => absurd q (by decide), hI0⟩
theorem PL_shelfOf {A : Nat → Nat → Nat} {K : Nat → VS} {b : CS} {n : Nat} {T : TS} {th : Int32} {sm ln : Nat} {at_ : Int32} {wl : Bool} {rm : Int32} {q : BS} {ha : Int64} {Rw : Nat → Nat → Int32} {ou : Nat → Int64} {y : Int32} {r_ : Int32} {w9 : HU} (hI : INV (K, b, n, T) (th, sm, ln, at_, wl, rm, q, ha, Rw)) (hp : (r_ = nI 0 ∧ ∃ v9 : Int32, (v9 = ((K 6).2.2.2 4) (ix y) ∧ sHas y ((K 6).1) = true) ∧ w9 = (A, (K, b, n, T), vp_updL ou (nI 0).toNatClampNeg v9.toInt64)) ∨ (((sHas y ((K 6).1) = false ∧ r_ = nI 1)) ∧ w9 = (A, (K, b, n, T), ou))) : r_ = (nI (if sIn y 0 ((Rw 0) 0 - 1) = true then 0 else 1)) ∧ (r_ = nI 0 → w9.2.2 0 = ((if sIn y 0 ((Rw 0) 0 - 1) = true then gW (Rw 0) 1 (ix y) else 0)).toInt64) ∧ INV w9.2.1 ((nI (if sIn y 0 ((Rw 0) 0 - 1) = true then 0 else 1)), sm, ln, at_, wl, rm, q, ha, Rw) := by
  have hI0 := hI
  obtain ⟨hk, hn, hsm, hs, hnn, hln, hB⟩ := hI
  have h : RV (Rw 0) (K 6).1 (K 6).2.1 (K 6).2.2.1 ((K 6).2.2.2 0) ((K 6).2.2.2 1) ((K 6).2.2.2 2) ((K 6).2.2.2 3) ((K 6).2.2.2 4) ((K 6).2.2.2 5) ((K 6).2.2.2 6) ((K 6).2.2.2 7) := hk
  have hsm : sm = n := hsm
  subst hsm
  have hs : SR (Rw 2) K sm := hs
  have hnn : T.1 ≤ 60 := hnn
  have hln : ln = T.1 := hln
  have hB : Rw 3 = T.2.2.2.1 := hB
  have hn : sm ≤ 6 := hn
  rcases hp with ⟨rfl, v, ⟨rfl, hc⟩, rfl⟩ | ⟨⟨hc, rfl⟩, rfl⟩
  · have e : sIn y 0 (Rw 0 0 - 1) = true := (has_in h.ro).symm.trans hc
    have hr := (has_ok h.hc hc).2
    repeat rw [if_pos e]
    exact ⟨rfl, fun _ => out9 (ou := ou) (h.hP _ hr), hI0⟩
  · have e : ¬ sIn y 0 (Rw 0 0 - 1) = true := by rw [← has_in h.ro, hc]; decide
    repeat rw [if_neg e]
    exact ⟨rfl, fun q => absurd q (by decide), hI0⟩
theorem PL_catalog {A : Nat → Nat → Nat} {K : Nat → VS} {b : CS} {n : Nat} {T : TS} {th : Int32} {sm ln : Nat} {at_ : Int32} {wl : Bool} {rm : Int32} {q : BS} {ha : Int64} {Rw : Nat → Nat → Int32} {ou : Nat → Int64} {y : Int32} {r_ : Int32} {w9 : HU} (hI : INV (K, b, n, T) (th, sm, ln, at_, wl, rm, q, ha, Rw)) (hp : (r_ = nI 0 ∧ ∃ v9 : Int32, (v9 = ((K 6).2.2.2 5) (ix y) ∧ sHas y ((K 6).1) = true) ∧ w9 = (A, (K, b, n, T), vp_updL ou (nI 0).toNatClampNeg v9.toInt64)) ∨ (((sHas y ((K 6).1) = false ∧ r_ = nI 1)) ∧ w9 = (A, (K, b, n, T), ou))) : r_ = (nI (if sIn y 0 ((Rw 0) 0 - 1) = true then 0 else 1)) ∧ (r_ = nI 0 → w9.2.2 0 = ((if sIn y 0 ((Rw 0) 0 - 1) = true then gW (Rw 0) 2 (ix y) else 0)).toInt64) ∧ INV w9.2.1 ((nI (if sIn y 0 ((Rw 0) 0 - 1) = true then 0 else 1)), sm, ln, at_, wl, rm, q, ha, Rw) := by
  have hI0 := hI
  obtain ⟨hk, hn, hsm, hs, hnn, hln, hB⟩ := hI
  have h : RV (Rw 0) (K 6).1 (K 6).2.1 (K 6).2.2.1 ((K 6).2.2.2 0) ((K 6).2.2.2 1) ((K 6).2.2.2 2) ((K 6).2.2.2 3) ((K 6).2.2.2 4) ((K 6).2.2.2 5) ((K 6).2.2.2 6) ((K 6).2.2.2 7) := hk
  have hsm : sm = n := hsm
  subst hsm
  have hs : SR (Rw 2) K sm := hs
  have hnn : T.1 ≤ 60 := hnn
  have hln : ln = T.1 := hln
  have hB : Rw 3 = T.2.2.2.1 := hB
  have hn : sm ≤ 6 := hn
  rcases hp with ⟨rfl, v, ⟨rfl, hc⟩, rfl⟩ | ⟨⟨hc, rfl⟩, rfl⟩
  · have e : sIn y 0 (Rw 0 0 - 1) = true := (has_in h.ro).symm.trans hc
    have hr := (has_ok h.hc hc).2
    repeat rw [if_pos e]
    exact ⟨rfl, fun _ => out9 (ou := ou) (h.hH _ hr), hI0⟩
  · have e : ¬ sIn y 0 (Rw 0 0 - 1) = true := by rw [← has_in h.ro, hc]; decide
    repeat rw [if_neg e]
    exact ⟨rfl, fun q => absurd q (by decide), hI0⟩
theorem PL_weight {A : Nat → Nat → Nat} {K : Nat → VS} {b : CS} {n : Nat} {T : TS} {th : Int32} {sm ln : Nat} {at_ : Int32} {wl : Bool} {rm : Int32} {q : BS} {ha : Int64} {Rw : Nat → Nat → Int32} {ou : Nat → Int64} {y : Int32} {r_ : Int32} {w9 : HU} (hI : INV (K, b, n, T) (th, sm, ln, at_, wl, rm, q, ha, Rw)) (hp : (r_ = nI 0 ∧ ∃ v9 : Int32, (v9 = sHf ((K 6).2.2.2 6) ((K 6).2.2.2 7) (ix y) ∧ sHas y ((K 6).1) = true) ∧ w9 = (A, (K, b, n, T), vp_updL ou (nI 0).toNatClampNeg v9.toInt64)) ∨ (((sHas y ((K 6).1) = false ∧ r_ = nI 1)) ∧ w9 = (A, (K, b, n, T), ou))) : r_ = (nI (if sIn y 0 ((Rw 0) 0 - 1) = true then 0 else 1)) ∧ (r_ = nI 0 → w9.2.2 0 = ((if sIn y 0 ((Rw 0) 0 - 1) = true then sHf (gW (Rw 0) 3) (gW (Rw 0) 4) (ix y) else 0)).toInt64) ∧ INV w9.2.1 ((nI (if sIn y 0 ((Rw 0) 0 - 1) = true then 0 else 1)), sm, ln, at_, wl, rm, q, ha, Rw) := by
  have hI0 := hI
  obtain ⟨hk, hn, hsm, hs, hnn, hln, hB⟩ := hI
  have h : RV (Rw 0) (K 6).1 (K 6).2.1 (K 6).2.2.1 ((K 6).2.2.2 0) ((K 6).2.2.2 1) ((K 6).2.2.2 2) ((K 6).2.2.2 3) ((K 6).2.2.2 4) ((K 6).2.2.2 5) ((K 6).2.2.2 6) ((K 6).2.2.2 7) := hk
  have hsm : sm = n := hsm
  subst hsm
  have hs : SR (Rw 2) K sm := hs
  have hnn : T.1 ≤ 60 := hnn
  have hln : ln = T.1 := hln
  have hB : Rw 3 = T.2.2.2.1 := hB
  have hn : sm ≤ 6 := hn
  rcases hp with ⟨rfl, v, ⟨rfl, hc⟩, rfl⟩ | ⟨⟨hc, rfl⟩, rfl⟩
  · have e : sIn y 0 (Rw 0 0 - 1) = true := (has_in h.ro).symm.trans hc
    have hr := (has_ok h.hc hc).2
    repeat rw [if_pos e]
    exact ⟨rfl, fun _ => out9 (ou := ou) (h.heft hr), hI0⟩
  · have e : ¬ sIn y 0 (Rw 0 0 - 1) = true := by rw [← has_in h.ro, hc]; decide
    repeat rw [if_neg e]
    exact ⟨rfl, fun q => absurd q (by decide), hI0⟩
theorem PL_free {A : Nat → Nat → Nat} {K : Nat → VS} {b : CS} {n : Nat} {T : TS} {th : Int32} {sm ln : Nat} {at_ : Int32} {wl : Bool} {rm : Int32} {q : BS} {ha : Int64} {Rw : Nat → Nat → Int32} {ou : Nat → Int64} {y : Int32} {r_ : Int32} {w9 : HU} (hI : INV (K, b, n, T) (th, sm, ln, at_, wl, rm, q, ha, Rw)) (hp : (r_ = nI 0 ∧ ∃ v9 : Int32, (v9 = ((K 6).2.2.2 0) (ix y) - ((K 6).2.2.2 2) (ix y) ∧ sIn y 0 5 = true) ∧ w9 = (A, (K, b, n, T), vp_updL ou (nI 0).toNatClampNeg v9.toInt64)) ∨ (((sIn y 0 5 = false ∧ r_ = nI 1)) ∧ w9 = (A, (K, b, n, T), ou))) : r_ = (nI (if sIn y 0 5 = true then 0 else 1)) ∧ (r_ = nI 0 → w9.2.2 0 = ((if sIn y 0 5 = true then sRm (Rw 0) (K 6).1 (ix y) else 0)).toInt64) ∧ INV w9.2.1 ((nI (if sIn y 0 5 = true then 0 else 1)), sm, ln, at_, wl, rm, q, ha, Rw) := by
  have hI0 := hI
  obtain ⟨hk, hn, hsm, hs, hnn, hln, hB⟩ := hI
  have h : RV (Rw 0) (K 6).1 (K 6).2.1 (K 6).2.2.1 ((K 6).2.2.2 0) ((K 6).2.2.2 1) ((K 6).2.2.2 2) ((K 6).2.2.2 3) ((K 6).2.2.2 4) ((K 6).2.2.2 5) ((K 6).2.2.2 6) ((K 6).2.2.2 7) := hk
  have hsm : sm = n := hsm
  subst hsm
  have hs : SR (Rw 2) K sm := hs
  have hnn : T.1 ≤ 60 := hnn
  have hln : ln = T.1 := hln
  have hB : Rw 3 = T.2.2.2.1 := hB
  have hn : sm ≤ 6 := hn
  rcases hp with ⟨rfl, v, ⟨rfl, hc⟩, rfl⟩ | ⟨⟨hc, rfl⟩, rfl⟩
  · have e : sIn y 0 5 = true := hc
    have hr := (sh_ok e).2
    repeat rw [if_pos e]
    exact ⟨rfl, fun _ => out9 (ou := ou) (h.free hr), hI0⟩
  · have e : ¬ sIn y 0 5 = true := by rw [hc]; decide
    repeat rw [if_neg e]
    exact ⟨rfl, fun q => absurd q (by decide), hI0⟩
theorem PL_reach {A : Nat → Nat → Nat} {K : Nat → VS} {b : CS} {n : Nat} {T : TS} {th : Int32} {sm ln : Nat} {at_ : Int32} {wl : Bool} {rm : Int32} {q : BS} {ha : Int64} {Rw : Nat → Nat → Int32} {ou : Nat → Int64} {y : Int32} {r_ : Int32} {w9 : HU} (hI : INV (K, b, n, T) (th, sm, ln, at_, wl, rm, q, ha, Rw)) (hp : (r_ = nI 0 ∧ ∃ v9 : Int32, (v9 = ((K 6).2.2.2 1) (ix y) ∧ sIn y 0 5 = true) ∧ w9 = (A, (K, b, n, T), vp_updL ou (nI 0).toNatClampNeg v9.toInt64)) ∨ (((sIn y 0 5 = false ∧ r_ = nI 1)) ∧ w9 = (A, (K, b, n, T), ou))) : r_ = (nI (if sIn y 0 5 = true then 0 else 1)) ∧ (r_ = nI 0 → w9.2.2 0 = ((if sIn y 0 5 = true then gQ (Rw 0) (ix y) else 0)).toInt64) ∧ INV w9.2.1 ((nI (if sIn y 0 5 = true then 0 else 1)), sm, ln, at_, wl, rm, q, ha, Rw) := by
  have hI0 := hI
  obtain ⟨hk, hn, hsm, hs, hnn, hln, hB⟩ := hI
  have h : RV (Rw 0) (K 6).1 (K 6).2.1 (K 6).2.2.1 ((K 6).2.2.2 0) ((K 6).2.2.2 1) ((K 6).2.2.2 2) ((K 6).2.2.2 3) ((K 6).2.2.2 4) ((K 6).2.2.2 5) ((K 6).2.2.2 6) ((K 6).2.2.2 7) := hk
  have hsm : sm = n := hsm
  subst hsm
  have hs : SR (Rw 2) K sm := hs
  have hnn : T.1 ≤ 60 := hnn
  have hln : ln = T.1 := hln
  have hB : Rw 3 = T.2.2.2.1 := hB
  have hn : sm ≤ 6 := hn
  rcases hp with ⟨rfl, v, ⟨rfl, hc⟩, rfl⟩ | ⟨⟨hc, rfl⟩, rfl⟩
  · have e : sIn y 0 5 = true := hc
    have hr := (sh_ok e).2
    repeat rw [if_pos e]
    exact ⟨rfl, fun _ => out9 (ou := ou) (h.hQ _ hr), hI0⟩
  · have e : ¬ sIn y 0 5 = true := by rw [hc]; decide
    repeat rw [if_neg e]
    exact ⟨rfl, fun q => absurd q (by decide), hI0⟩
theorem PL_call {A : Nat → Nat → Nat} {K : Nat → VS} {b : CS} {n : Nat} {T : TS} {th : Int32} {sm ln : Nat} {at_ : Int32} {wl : Bool} {rm : Int32} {q : BS} {ha : Int64} {Rw : Nat → Nat → Int32} {ou : Nat → Int64} {y : Int32} {r_ : Int32} {w9 : HU} (hI : INV (K, b, n, T) (th, sm, ln, at_, wl, rm, q, ha, Rw)) (hp : (r_ = nI 0 ∧ ∃ v9 : Int32, (v9 = cWalk ((K 6).2.2.2 1) ((K 6).2.2.2 4) ((K 6).2.2.2 5) (ix y) ∧ sHas y ((K 6).1) = true) ∧ w9 = ((svA n A), (setK (svK n K) 6 (((K 6).1), (((K 6).2.1) + cWalk ((K 6).2.2.2 1) ((K 6).2.2.2 4) ((K 6).2.2.2 5) (ix y)), ((K 6).2.2.1), mk8 ((K 6).2.2.2 0) ((K 6).2.2.2 1) ((K 6).2.2.2 2) ((K 6).2.2.2 3) ((K 6).2.2.2 4) (upd ((K 6).2.2.2 5) (ix y) (((K 6).2.2.2 4) (ix y))) (upd ((K 6).2.2.2 6) (ix y) (((K 6).2.2.2 6) (ix y) + 1)) ((K 6).2.2.2 7)), b, svN n, T), vp_updL ou (nI 0).toNatClampNeg v9.toInt64)) ∨ (((sHas y ((K 6).1) = false ∧ r_ = nI 1)) ∧ w9 = (A, (K, b, n, T), ou))) : r_ = (nI (if sIn y 0 ((Rw 0) 0 - 1) = true then 0 else 1)) ∧ (r_ = nI 0 → w9.2.2 0 = ((if sIn y 0 ((Rw 0) 0 - 1) = true then sWalk (gQ (Rw 0)) (gW (Rw 0) 1) (gW (Rw 0) 2) (ix y) else 0)).toInt64) ∧ INV w9.2.1 ((nI (if sIn y 0 ((Rw 0) 0 - 1) = true then 0 else 1)), if sIn y 0 ((Rw 0) 0 - 1) = true then svN sm else sm, ln, at_, wl, rm, q, ha, mk5 (if sIn y 0 ((Rw 0) 0 - 1) = true then fCalls (Rw 0) (ix y) else (Rw 0)) (Rw 1) (if sIn y 0 ((Rw 0) 0 - 1) = true then svV (Rw 0) (Rw 2) sm else (Rw 2)) (Rw 3) (Rw 4)) := by
  have hI0 := hI
  obtain ⟨hk, hn, hsm, hs, hnn, hln, hB⟩ := hI
  have h : RV (Rw 0) (K 6).1 (K 6).2.1 (K 6).2.2.1 ((K 6).2.2.2 0) ((K 6).2.2.2 1) ((K 6).2.2.2 2) ((K 6).2.2.2 3) ((K 6).2.2.2 4) ((K 6).2.2.2 5) ((K 6).2.2.2 6) ((K 6).2.2.2 7) := hk
  have hsm : sm = n := hsm
  subst hsm
  have hs : SR (Rw 2) K sm := hs
  have hnn : T.1 ≤ 60 := hnn
  have hln : ln = T.1 := hln
  have hB : Rw 3 = T.2.2.2.1 := hB
  have hn : sm ≤ 6 := hn
  rcases hp with ⟨rfl, v, ⟨rfl, hc⟩, rfl⟩ | ⟨⟨hc, rfl⟩, rfl⟩
  · have e : sIn y 0 (Rw 0 0 - 1) = true := (has_in h.ro).symm.trans hc
    have hr := (has_ok h.hc hc).2
    repeat rw [if_pos e]
    exact ⟨rfl, fun _ => out9 (ou := ou) (h.walk hr), ⟨h.calls hr, svN_le hn, rfl, (SR.save hn hs hk).set6 (svN_le hn) (Nat.le_refl _) (Nat.le_refl _), hnn, hln, hB⟩⟩
  · have e : ¬ sIn y 0 (Rw 0 0 - 1) = true := by rw [← has_in h.ro, hc]; decide
    repeat rw [if_neg e]
    exact ⟨rfl, fun q => absurd q (by decide), hI0⟩
theorem PL_misplace {A : Nat → Nat → Nat} {K : Nat → VS} {b : CS} {n : Nat} {T : TS} {th : Int32} {sm ln : Nat} {at_ : Int32} {wl : Bool} {rm : Int32} {q : BS} {ha : Int64} {Rw : Nat → Nat → Int32} {ou : Nat → Int64} {y z : Int32} {r_ : Int32} {w9 : HU} (hI : INV (K, b, n, T) (th, sm, ln, at_, wl, rm, q, ha, Rw)) (hp : (r_ = nI 0 ∧ ∃ v9 : Int32, (v9 = ((K 6).2.2.2 4) (ix y) ∧ cxMp ((K 6).2.2.2 4) ((K 6).2.2.2 0) ((K 6).2.2.2 2) ((K 6).2.2.2 3) ((K 6).1) y z = 0) ∧ w9 = ((svA n A), (setK (svK n K) 6 (((K 6).1), ((K 6).2.1), ((K 6).2.2.1), mk8 ((K 6).2.2.2 0) ((K 6).2.2.2 1) (fPn ((K 6).2.2.2 2) ((K 6).2.2.2 4) ((K 6).2.2.2 3) (ix y) (ix z)) ((K 6).2.2.2 3) (upd ((K 6).2.2.2 4) (ix y) (nI (ix z))) ((K 6).2.2.2 5) ((K 6).2.2.2 6) ((K 6).2.2.2 7)), b, svN n, T), vp_updL ou (nI 0).toNatClampNeg v9.toInt64)) ∨ (((cxMp ((K 6).2.2.2 4) ((K 6).2.2.2 0) ((K 6).2.2.2 2) ((K 6).2.2.2 3) ((K 6).1) y z = 1 ∧ r_ = nI 1) ∨ (cxMp ((K 6).2.2.2 4) ((K 6).2.2.2 0) ((K 6).2.2.2 2) ((K 6).2.2.2 3) ((K 6).1) y z = 2 ∧ r_ = nI 2)) ∧ w9 = (A, (K, b, n, T), ou))) : r_ = (nI (cdMp (Rw 0) (K 6).1 y z)) ∧ (r_ = nI 0 → w9.2.2 0 = ((if cdMp (Rw 0) (K 6).1 y z = 0 then gW (Rw 0) 1 (ix y) else 0)).toInt64) ∧ INV w9.2.1 ((nI (cdMp (Rw 0) (K 6).1 y z)), if cdMp (Rw 0) (K 6).1 y z = 0 then svN sm else sm, ln, at_, wl, rm, q, ha, mk5 (if cdMp (Rw 0) (K 6).1 y z = 0 then upd (Rw 0) (15 + 5 * (ix y) + 1) z else (Rw 0)) (Rw 1) (if cdMp (Rw 0) (K 6).1 y z = 0 then svV (Rw 0) (Rw 2) sm else (Rw 2)) (Rw 3) (Rw 4)) := by
  have hI0 := hI
  obtain ⟨hk, hn, hsm, hs, hnn, hln, hB⟩ := hI
  have h : RV (Rw 0) (K 6).1 (K 6).2.1 (K 6).2.2.1 ((K 6).2.2.2 0) ((K 6).2.2.2 1) ((K 6).2.2.2 2) ((K 6).2.2.2 3) ((K 6).2.2.2 4) ((K 6).2.2.2 5) ((K 6).2.2.2 6) ((K 6).2.2.2 7) := hk
  have hsm : sm = n := hsm
  subst hsm
  have hs : SR (Rw 2) K sm := hs
  have hnn : T.1 ≤ 60 := hnn
  have hln : ln = T.1 := hln
  have hB : Rw 3 = T.2.2.2.1 := hB
  have hn : sm ≤ 6 := hn
  have eq9 : cxMp ((K 6).2.2.2 4) ((K 6).2.2.2 0) ((K 6).2.2.2 2) ((K 6).2.2.2 3) (K 6).1 y z = cdMp (Rw 0) (K 6).1 y z := cxMp_eq h
  rcases hp with ⟨rfl, v, ⟨rfl, hc⟩, rfl⟩ | ⟨⟨hc, rfl⟩ | ⟨hc, rfl⟩, rfl⟩
  · have e : cdMp (Rw 0) (K 6).1 y z = 0 := eq9.symm.trans hc
    have c0 := cdMp_0 e
    have hr := ix_rc h.ro c0.1
    repeat rw [if_pos e]
    rw [e]
    exact ⟨rfl, fun _ => out9 (ou := ou) (h.hP _ hr), ⟨h.mp hr (Ok6_of c0.2), svN_le hn, rfl, (SR.save hn hs hk).set6 (svN_le hn) (Nat.le_refl _) (Nat.le_refl _), hnn, hln, hB⟩⟩
  · have e : cdMp (Rw 0) (K 6).1 y z = 1 := eq9.symm.trans hc
    have ne : ¬ cdMp (Rw 0) (K 6).1 y z = 0 := by rw [e]; decide
    repeat rw [if_neg ne]
    rw [e]
    exact ⟨rfl, fun q => absurd q (by decide), hI0⟩
  · have e : cdMp (Rw 0) (K 6).1 y z = 2 := eq9.symm.trans hc
    have ne : ¬ cdMp (Rw 0) (K 6).1 y z = 0 := by rw [e]; decide
    repeat rw [if_neg ne]
    rw [e]
    exact ⟨rfl, fun q => absurd q (by decide), hI0⟩
theorem PL_night {A : Nat → Nat → Nat} {K : Nat → VS} {b : CS} {n : Nat} {T : TS} {th : Int32} {sm ln : Nat} {at_ : Int32} {wl : Bool} {rm : Int32} {q : BS} {ha : Int64} {Rw : Nat → Nat → Int32} {ou : Nat → Int64} {y : Int32} {r_ : Int32} {w9 : HU} (hI : INV (K, b, n, T) (th, sm, ln, at_, wl, rm, q, ha, Rw)) (hp : (r_ = nI 0 ∧ ∃ v9 : Int32, (v9 = nI (cW1 ((K 6).2.2.2 6) ((K 6).2.2.2 7) ((K 6).2.2.2 1) ((K 6).2.2.2 3) ((K 6).2.2.2 0) ((K 6).1) (ix y) ((((K 6).2.2.2 2), ((K 6).2.2.2 4), ((K 6).2.2.2 5), ((K 6).2.2.1)), b)).1 ∧ sIn y 1 20 = true) ∧ w9 = ((svA n A), (setK (svK n K) 6 (((K 6).1), ((K 6).2.1), ((cW1 ((K 6).2.2.2 6) ((K 6).2.2.2 7) ((K 6).2.2.2 1) ((K 6).2.2.2 3) ((K 6).2.2.2 0) ((K 6).1) (ix y) ((((K 6).2.2.2 2), ((K 6).2.2.2 4), ((K 6).2.2.2 5), ((K 6).2.2.1)), b)).2.1.2.2.2), mk8 ((K 6).2.2.2 0) ((K 6).2.2.2 1) ((cW1 ((K 6).2.2.2 6) ((K 6).2.2.2 7) ((K 6).2.2.2 1) ((K 6).2.2.2 3) ((K 6).2.2.2 0) ((K 6).1) (ix y) ((((K 6).2.2.2 2), ((K 6).2.2.2 4), ((K 6).2.2.2 5), ((K 6).2.2.1)), b)).2.1.1) ((K 6).2.2.2 3) ((cW1 ((K 6).2.2.2 6) ((K 6).2.2.2 7) ((K 6).2.2.2 1) ((K 6).2.2.2 3) ((K 6).2.2.2 0) ((K 6).1) (ix y) ((((K 6).2.2.2 2), ((K 6).2.2.2 4), ((K 6).2.2.2 5), ((K 6).2.2.1)), b)).2.1.2.1) ((cW1 ((K 6).2.2.2 6) ((K 6).2.2.2 7) ((K 6).2.2.2 1) ((K 6).2.2.2 3) ((K 6).2.2.2 0) ((K 6).1) (ix y) ((((K 6).2.2.2 2), ((K 6).2.2.2 4), ((K 6).2.2.2 5), ((K 6).2.2.1)), b)).2.1.2.2.1) ((K 6).2.2.2 6) ((K 6).2.2.2 7)), ((((cW1 ((K 6).2.2.2 6) ((K 6).2.2.2 7) ((K 6).2.2.2 1) ((K 6).2.2.2 3) ((K 6).2.2.2 0) ((K 6).1) (ix y) ((((K 6).2.2.2 2), ((K 6).2.2.2 4), ((K 6).2.2.2 5), ((K 6).2.2.1)), b)).2.2).1), (((cW1 ((K 6).2.2.2 6) ((K 6).2.2.2 7) ((K 6).2.2.2 1) ((K 6).2.2.2 3) ((K 6).2.2.2 0) ((K 6).1) (ix y) ((((K 6).2.2.2 2), ((K 6).2.2.2 4), ((K 6).2.2.2 5), ((K 6).2.2.1)), b)).2.2).2.1), (((cW1 ((K 6).2.2.2 6) ((K 6).2.2.2 7) ((K 6).2.2.2 1) ((K 6).2.2.2 3) ((K 6).2.2.2 0) ((K 6).1) (ix y) ((((K 6).2.2.2 2), ((K 6).2.2.2 4), ((K 6).2.2.2 5), ((K 6).2.2.1)), b)).2.2).2.2.1), (((cW1 ((K 6).2.2.2 6) ((K 6).2.2.2 7) ((K 6).2.2.2 1) ((K 6).2.2.2 3) ((K 6).2.2.2 0) ((K 6).1) (ix y) ((((K 6).2.2.2 2), ((K 6).2.2.2 4), ((K 6).2.2.2 5), ((K 6).2.2.1)), b)).2.2).2.2.2)), svN n, T), vp_updL ou (nI 0).toNatClampNeg v9.toInt64)) ∨ (((sIn y 1 20 = false ∧ r_ = nI 1)) ∧ w9 = (A, (K, b, n, T), ou))) : r_ = (nI (if sIn y 1 20 = true then 0 else 1)) ∧ (r_ = nI 0 → w9.2.2 0 = ((if sIn y 1 20 = true then nI (fWk (Rw 0) (K 6).1 (ix y) q).1 else 0)).toInt64) ∧ INV w9.2.1 ((nI (if sIn y 1 20 = true then 0 else 1)), if sIn y 1 20 = true then svN sm else sm, ln, at_, wl, rm, ((if sIn y 1 20 = true then ((fWk (Rw 0) (K 6).1 (ix y) q).2.2).1 else q.1), (if sIn y 1 20 = true then ((fWk (Rw 0) (K 6).1 (ix y) q).2.2).2.1 else q.2.1), (if sIn y 1 20 = true then ((fWk (Rw 0) (K 6).1 (ix y) q).2.2).2.2.1 else q.2.2.1), if sIn y 1 20 = true then ((fWk (Rw 0) (K 6).1 (ix y) q).2.2).2.2.2 else q.2.2.2), ha, mk5 (if sIn y 1 20 = true then fWkS (Rw 0) (K 6).1 (ix y) q else (Rw 0)) (Rw 1) (if sIn y 1 20 = true then svV (Rw 0) (Rw 2) sm else (Rw 2)) (Rw 3) (Rw 4)) := by
  have hI0 := hI
  obtain ⟨hk, hn, hsm, hs, hnn, hln, hB⟩ := hI
  have h : RV (Rw 0) (K 6).1 (K 6).2.1 (K 6).2.2.1 ((K 6).2.2.2 0) ((K 6).2.2.2 1) ((K 6).2.2.2 2) ((K 6).2.2.2 3) ((K 6).2.2.2 4) ((K 6).2.2.2 5) ((K 6).2.2.2 6) ((K 6).2.2.2 7) := hk
  have hsm : sm = n := hsm
  subst hsm
  have hs : SR (Rw 2) K sm := hs
  have hnn : T.1 ≤ 60 := hnn
  have hln : ln = T.1 := hln
  have hB : Rw 3 = T.2.2.2.1 := hB
  have hn : sm ≤ 6 := hn
  rcases hp with ⟨rfl, v, ⟨rfl, hc⟩, rfl⟩ | ⟨⟨hc, rfl⟩, rfl⟩
  · have e : sIn y 1 20 = true := hc
    have hN := h.night (ix y) b q
    repeat rw [if_pos e]
    exact ⟨rfl, fun _ => out9 (ou := ou) (congrArg nI hN.1), ⟨hN.2, svN_le hn, rfl, (SR.save hn hs hk).set6 (svN_le hn) (Nat.le_refl _) (Nat.le_refl _), hnn, hln, hB⟩⟩
  · have e : ¬ sIn y 1 20 = true := by rw [hc]; decide
    repeat rw [if_neg e]
    exact ⟨rfl, fun q => absurd q (by decide), hI0⟩
theorem PL_reason {A : Nat → Nat → Nat} {K : Nat → VS} {b : CS} {n : Nat} {T : TS} {th : Int32} {sm ln : Nat} {at_ : Int32} {wl : Bool} {rm : Int32} {q : BS} {ha : Int64} {Rw : Nat → Nat → Int32} {ou : Nat → Int64} {y z : Int32} {r_ : Int32} {w9 : HU} (hI : INV (K, b, n, T) (th, sm, ln, at_, wl, rm, q, ha, Rw)) (hp : (r_ = nI 0 ∧ ∃ v9 : Int32, (v9 = cRsn ((K 6).2.2.2 6) ((K 6).2.2.2 7) ((K 6).2.2.2 1) ((K 6).2.2.2 4) ((K 6).2.2.2 5) ((K 6).2.2.2 0) ((K 6).2.2.2 2) ((K 6).2.2.2 3) (ix y) (ix z) ∧ sHas y ((K 6).1) = true ∧ sIn z 0 5 = true) ∧ w9 = (A, (K, b, n, T), vp_updL ou (nI 0).toNatClampNeg v9.toInt64)) ∨ ((((sHas y ((K 6).1) = false ∨ sIn z 0 5 = false) ∧ r_ = nI 1)) ∧ w9 = (A, (K, b, n, T), ou))) : r_ = (nI (if sIn y 0 ((Rw 0) 0 - 1) = true ∧ sIn z 0 5 = true then 0 else 1)) ∧ (r_ = nI 0 → w9.2.2 0 = ((if sIn y 0 ((Rw 0) 0 - 1) = true ∧ sIn z 0 5 = true then rsn (Rw 0) (K 6).1 (ix y) (ix z) else 0)).toInt64) ∧ INV w9.2.1 ((nI (if sIn y 0 ((Rw 0) 0 - 1) = true ∧ sIn z 0 5 = true then 0 else 1)), sm, ln, at_, wl, rm, q, ha, Rw) := by
  have hI0 := hI
  obtain ⟨hk, hn, hsm, hs, hnn, hln, hB⟩ := hI
  have h : RV (Rw 0) (K 6).1 (K 6).2.1 (K 6).2.2.1 ((K 6).2.2.2 0) ((K 6).2.2.2 1) ((K 6).2.2.2 2) ((K 6).2.2.2 3) ((K 6).2.2.2 4) ((K 6).2.2.2 5) ((K 6).2.2.2 6) ((K 6).2.2.2 7) := hk
  have hsm : sm = n := hsm
  subst hsm
  have hs : SR (Rw 2) K sm := hs
  have hnn : T.1 ≤ 60 := hnn
  have hln : ln = T.1 := hln
  have hB : Rw 3 = T.2.2.2.1 := hB
  have hn : sm ≤ 6 := hn
  have eq9 : sHas y (K 6).1 = sIn y 0 (Rw 0 0 - 1) := has_in h.ro
  rcases hp with ⟨rfl, v, ⟨rfl, hc, hd⟩, rfl⟩ | ⟨⟨hc, rfl⟩, rfl⟩
  · have e : sIn y 0 (Rw 0 0 - 1) = true ∧ sIn z 0 5 = true := ⟨eq9.symm.trans hc, hd⟩
    repeat rw [if_pos e]
    exact ⟨rfl, fun _ => out9 (ou := ou) (h.reason (has_ok h.hc hc).2 (sh_ok hd).2), hI0⟩
  · have e : ¬ (sIn y 0 (Rw 0 0 - 1) = true ∧ sIn z 0 5 = true) := fun q => by
      rcases hc with hc | hc
      · rw [← eq9, hc] at q; exact absurd q.1 (by decide)
      · rw [hc] at q; exact absurd q.2 (by decide)
    repeat rw [if_neg e]
    exact ⟨rfl, fun q => absurd q (by decide), hI0⟩
theorem PL_costAfterNight {A : Nat → Nat → Nat} {K : Nat → VS} {b : CS} {n : Nat} {T : TS} {th : Int32} {sm ln : Nat} {at_ : Int32} {wl : Bool} {rm : Int32} {q : BS} {ha : Int64} {Rw : Nat → Nat → Int32} {ou : Nat → Int64} {y : Int32} {r_ : Int32} {w9 : HU} (hI : INV (K, b, n, T) (th, sm, ln, at_, wl, rm, q, ha, Rw)) (hp : (r_ = nI 0 ∧ ∃ v9 : Int32, (v9 = sCo (va_cpy ((K 6).2.2.2 6) ((K 7).2.2.2 6) 0 0 16) (va_cpy ((K 6).2.2.2 7) ((K 7).2.2.2 7) 0 0 16) (cW1 (va_cpy ((K 6).2.2.2 6) ((K 7).2.2.2 6) 0 0 16) (va_cpy ((K 6).2.2.2 7) ((K 7).2.2.2 7) 0 0 16) (va_cpy ((K 6).2.2.2 1) ((K 7).2.2.2 1) 0 0 6) (va_cpy ((K 6).2.2.2 3) ((K 7).2.2.2 3) 0 0 16) (va_cpy ((K 6).2.2.2 0) ((K 7).2.2.2 0) 0 0 6) ((K 6).1) (ix y) (((va_cpy ((K 6).2.2.2 2) ((K 7).2.2.2 2) 0 0 6), (va_cpy ((K 6).2.2.2 4) ((K 7).2.2.2 4) 0 0 16), (va_cpy ((K 6).2.2.2 5) ((K 7).2.2.2 5) 0 0 16), ((K 6).2.2.1)), b)).2.1.2.2.1 (va_cpy ((K 6).2.2.2 1) ((K 7).2.2.2 1) 0 0 6) ((K 6).1) ∧ sIn y 1 20 = true) ∧ w9 = (A, (setK K 7 (((K 6).1), ((K 6).2.1), ((cW1 (va_cpy ((K 6).2.2.2 6) ((K 7).2.2.2 6) 0 0 16) (va_cpy ((K 6).2.2.2 7) ((K 7).2.2.2 7) 0 0 16) (va_cpy ((K 6).2.2.2 1) ((K 7).2.2.2 1) 0 0 6) (va_cpy ((K 6).2.2.2 3) ((K 7).2.2.2 3) 0 0 16) (va_cpy ((K 6).2.2.2 0) ((K 7).2.2.2 0) 0 0 6) ((K 6).1) (ix y) (((va_cpy ((K 6).2.2.2 2) ((K 7).2.2.2 2) 0 0 6), (va_cpy ((K 6).2.2.2 4) ((K 7).2.2.2 4) 0 0 16), (va_cpy ((K 6).2.2.2 5) ((K 7).2.2.2 5) 0 0 16), ((K 6).2.2.1)), b)).2.1.2.2.2), mk8 (va_cpy ((K 6).2.2.2 0) ((K 7).2.2.2 0) 0 0 6) (va_cpy ((K 6).2.2.2 1) ((K 7).2.2.2 1) 0 0 6) ((cW1 (va_cpy ((K 6).2.2.2 6) ((K 7).2.2.2 6) 0 0 16) (va_cpy ((K 6).2.2.2 7) ((K 7).2.2.2 7) 0 0 16) (va_cpy ((K 6).2.2.2 1) ((K 7).2.2.2 1) 0 0 6) (va_cpy ((K 6).2.2.2 3) ((K 7).2.2.2 3) 0 0 16) (va_cpy ((K 6).2.2.2 0) ((K 7).2.2.2 0) 0 0 6) ((K 6).1) (ix y) (((va_cpy ((K 6).2.2.2 2) ((K 7).2.2.2 2) 0 0 6), (va_cpy ((K 6).2.2.2 4) ((K 7).2.2.2 4) 0 0 16), (va_cpy ((K 6).2.2.2 5) ((K 7).2.2.2 5) 0 0 16), ((K 6).2.2.1)), b)).2.1.1) (va_cpy ((K 6).2.2.2 3) ((K 7).2.2.2 3) 0 0 16) ((cW1 (va_cpy ((K 6).2.2.2 6) ((K 7).2.2.2 6) 0 0 16) (va_cpy ((K 6).2.2.2 7) ((K 7).2.2.2 7) 0 0 16) (va_cpy ((K 6).2.2.2 1) ((K 7).2.2.2 1) 0 0 6) (va_cpy ((K 6).2.2.2 3) ((K 7).2.2.2 3) 0 0 16) (va_cpy ((K 6).2.2.2 0) ((K 7).2.2.2 0) 0 0 6) ((K 6).1) (ix y) (((va_cpy ((K 6).2.2.2 2) ((K 7).2.2.2 2) 0 0 6), (va_cpy ((K 6).2.2.2 4) ((K 7).2.2.2 4) 0 0 16), (va_cpy ((K 6).2.2.2 5) ((K 7).2.2.2 5) 0 0 16), ((K 6).2.2.1)), b)).2.1.2.1) ((cW1 (va_cpy ((K 6).2.2.2 6) ((K 7).2.2.2 6) 0 0 16) (va_cpy ((K 6).2.2.2 7) ((K 7).2.2.2 7) 0 0 16) (va_cpy ((K 6).2.2.2 1) ((K 7).2.2.2 1) 0 0 6) (va_cpy ((K 6).2.2.2 3) ((K 7).2.2.2 3) 0 0 16) (va_cpy ((K 6).2.2.2 0) ((K 7).2.2.2 0) 0 0 6) ((K 6).1) (ix y) (((va_cpy ((K 6).2.2.2 2) ((K 7).2.2.2 2) 0 0 6), (va_cpy ((K 6).2.2.2 4) ((K 7).2.2.2 4) 0 0 16), (va_cpy ((K 6).2.2.2 5) ((K 7).2.2.2 5) 0 0 16), ((K 6).2.2.1)), b)).2.1.2.2.1) (va_cpy ((K 6).2.2.2 6) ((K 7).2.2.2 6) 0 0 16) (va_cpy ((K 6).2.2.2 7) ((K 7).2.2.2 7) 0 0 16)), ((((cW1 (va_cpy ((K 6).2.2.2 6) ((K 7).2.2.2 6) 0 0 16) (va_cpy ((K 6).2.2.2 7) ((K 7).2.2.2 7) 0 0 16) (va_cpy ((K 6).2.2.2 1) ((K 7).2.2.2 1) 0 0 6) (va_cpy ((K 6).2.2.2 3) ((K 7).2.2.2 3) 0 0 16) (va_cpy ((K 6).2.2.2 0) ((K 7).2.2.2 0) 0 0 6) ((K 6).1) (ix y) (((va_cpy ((K 6).2.2.2 2) ((K 7).2.2.2 2) 0 0 6), (va_cpy ((K 6).2.2.2 4) ((K 7).2.2.2 4) 0 0 16), (va_cpy ((K 6).2.2.2 5) ((K 7).2.2.2 5) 0 0 16), ((K 6).2.2.1)), b)).2.2).1), (((cW1 (va_cpy ((K 6).2.2.2 6) ((K 7).2.2.2 6) 0 0 16) (va_cpy ((K 6).2.2.2 7) ((K 7).2.2.2 7) 0 0 16) (va_cpy ((K 6).2.2.2 1) ((K 7).2.2.2 1) 0 0 6) (va_cpy ((K 6).2.2.2 3) ((K 7).2.2.2 3) 0 0 16) (va_cpy ((K 6).2.2.2 0) ((K 7).2.2.2 0) 0 0 6) ((K 6).1) (ix y) (((va_cpy ((K 6).2.2.2 2) ((K 7).2.2.2 2) 0 0 6), (va_cpy ((K 6).2.2.2 4) ((K 7).2.2.2 4) 0 0 16), (va_cpy ((K 6).2.2.2 5) ((K 7).2.2.2 5) 0 0 16), ((K 6).2.2.1)), b)).2.2).2.1), (((cW1 (va_cpy ((K 6).2.2.2 6) ((K 7).2.2.2 6) 0 0 16) (va_cpy ((K 6).2.2.2 7) ((K 7).2.2.2 7) 0 0 16) (va_cpy ((K 6).2.2.2 1) ((K 7).2.2.2 1) 0 0 6) (va_cpy ((K 6).2.2.2 3) ((K 7).2.2.2 3) 0 0 16) (va_cpy ((K 6).2.2.2 0) ((K 7).2.2.2 0) 0 0 6) ((K 6).1) (ix y) (((va_cpy ((K 6).2.2.2 2) ((K 7).2.2.2 2) 0 0 6), (va_cpy ((K 6).2.2.2 4) ((K 7).2.2.2 4) 0 0 16), (va_cpy ((K 6).2.2.2 5) ((K 7).2.2.2 5) 0 0 16), ((K 6).2.2.1)), b)).2.2).2.2.1), (((cW1 (va_cpy ((K 6).2.2.2 6) ((K 7).2.2.2 6) 0 0 16) (va_cpy ((K 6).2.2.2 7) ((K 7).2.2.2 7) 0 0 16) (va_cpy ((K 6).2.2.2 1) ((K 7).2.2.2 1) 0 0 6) (va_cpy ((K 6).2.2.2 3) ((K 7).2.2.2 3) 0 0 16) (va_cpy ((K 6).2.2.2 0) ((K 7).2.2.2 0) 0 0 6) ((K 6).1) (ix y) (((va_cpy ((K 6).2.2.2 2) ((K 7).2.2.2 2) 0 0 6), (va_cpy ((K 6).2.2.2 4) ((K 7).2.2.2 4) 0 0 16), (va_cpy ((K 6).2.2.2 5) ((K 7).2.2.2 5) 0 0 16), ((K 6).2.2.1)), b)).2.2).2.2.2)), n, T), vp_updL ou (nI 0).toNatClampNeg v9.toInt64)) ∨ (((sIn y 1 20 = false ∧ r_ = nI 1)) ∧ w9 = (A, (setK K 7 (((K 7).1), ((K 7).2.1), ((K 7).2.2.1), mk8 ((K 7).2.2.2 0) ((K 7).2.2.2 1) ((K 7).2.2.2 2) ((K 7).2.2.2 3) ((K 7).2.2.2 4) ((K 7).2.2.2 5) ((K 7).2.2.2 6) ((K 7).2.2.2 7)), b, n, T), ou))) : r_ = (nI (if sIn y 1 20 = true then 0 else 1)) ∧ (r_ = nI 0 → w9.2.2 0 = ((if sIn y 1 20 = true then sCo (gW (fWkS (Rw 0) (K 6).1 (ix y) q) 3) (gW (fWkS (Rw 0) (K 6).1 (ix y) q) 4) (gW (fWkS (Rw 0) (K 6).1 (ix y) q) 2) (gQ (fWkS (Rw 0) (K 6).1 (ix y) q)) (K 6).1 else 0)).toInt64) ∧ INV w9.2.1 ((nI (if sIn y 1 20 = true then 0 else 1)), sm, ln, at_, wl, rm, ((if sIn y 1 20 = true then ((fWk (Rw 0) (K 6).1 (ix y) q).2.2).1 else q.1), (if sIn y 1 20 = true then ((fWk (Rw 0) (K 6).1 (ix y) q).2.2).2.1 else q.2.1), (if sIn y 1 20 = true then ((fWk (Rw 0) (K 6).1 (ix y) q).2.2).2.2.1 else q.2.2.1), if sIn y 1 20 = true then ((fWk (Rw 0) (K 6).1 (ix y) q).2.2).2.2.2 else q.2.2.2), ha, mk5 (if sIn y 1 20 = true then fCq (fCq (Rw 0) (Rw 1) 96) (fWkS (Rw 0) (K 6).1 (ix y) q) 96 else (Rw 0)) (if sIn y 1 20 = true then fCq (Rw 0) (Rw 1) 96 else (Rw 1)) (Rw 2) (Rw 3) (Rw 4)) := by
  have hI0 := hI
  obtain ⟨hk, hn, hsm, hs, hnn, hln, hB⟩ := hI
  have h : RV (Rw 0) (K 6).1 (K 6).2.1 (K 6).2.2.1 ((K 6).2.2.2 0) ((K 6).2.2.2 1) ((K 6).2.2.2 2) ((K 6).2.2.2 3) ((K 6).2.2.2 4) ((K 6).2.2.2 5) ((K 6).2.2.2 6) ((K 6).2.2.2 7) := hk
  have hsm : sm = n := hsm
  subst hsm
  have hs : SR (Rw 2) K sm := hs
  have hnn : T.1 ≤ 60 := hnn
  have hln : ln = T.1 := hln
  have hB : Rw 3 = T.2.2.2.1 := hB
  have hn : sm ≤ 6 := hn
  rcases hp with ⟨rfl, v, ⟨rfl, hc⟩, rfl⟩ | ⟨⟨hc, rfl⟩, rfl⟩
  · have e : sIn y 1 20 = true := hc
    have hN := (h.cpy (R2 := (K 7).2.2.2 0) (Q2 := (K 7).2.2.2 1) (F2 := (K 7).2.2.2 2) (W2 := (K 7).2.2.2 3) (P2 := (K 7).2.2.2 4) (H2 := (K 7).2.2.2 5) (N2 := (K 7).2.2.2 6) (O2 := (K 7).2.2.2 7)).night (ix y) b q
    repeat rw [if_pos e]
    exact ⟨rfl, fun _ => out9 (ou := ou) ((hN.2).cost _ (Nat.le_refl _)), ⟨hk.cg (fun i hi => fCq_back hi), hn, rfl, hs.set6 hn (by decide) (Nat.le_refl _), hnn, hln, hB⟩⟩
  · have e : ¬ sIn y 1 20 = true := by rw [hc]; decide
    repeat rw [if_neg e]
    exact ⟨rfl, fun q => absurd q (by decide), ⟨hk, hn, rfl, hs.set6 hn (by decide) (Nat.le_refl _), hnn, hln, hB⟩⟩
theorem PL_walkTo {A : Nat → Nat → Nat} {K : Nat → VS} {b : CS} {n : Nat} {T : TS} {th : Int32} {sm ln : Nat} {at_ : Int32} {wl : Bool} {rm : Int32} {q : BS} {ha : Int64} {Rw : Nat → Nat → Int32} {ou : Nat → Int64} {y : Int32} {r_ : Int32} {w9 : HU} (hI : INV (K, b, n, T) (th, sm, ln, at_, wl, rm, q, ha, Rw)) (hp : (r_ = nI 0 ∧ ∃ v9 : Int32, (v9 = cWalk ((K 6).2.2.2 1) ((K 6).2.2.2 4) ((K 6).2.2.2 5) (ix y) ∧ sHas y ((K 6).1) = true) ∧ w9 = (A, (K, b, n, T), vp_updL ou (nI 0).toNatClampNeg v9.toInt64)) ∨ (((sHas y ((K 6).1) = false ∧ r_ = nI 1)) ∧ w9 = (A, (K, b, n, T), ou))) : r_ = (nI (if sIn y 0 ((Rw 0) 0 - 1) = true then 0 else 1)) ∧ (r_ = nI 0 → w9.2.2 0 = ((if sIn y 0 ((Rw 0) 0 - 1) = true then sWalk (gQ (Rw 0)) (gW (Rw 0) 1) (gW (Rw 0) 2) (ix y) else 0)).toInt64) ∧ INV w9.2.1 ((nI (if sIn y 0 ((Rw 0) 0 - 1) = true then 0 else 1)), sm, ln, at_, wl, rm, q, ha, Rw) := by
  have hI0 := hI
  obtain ⟨hk, hn, hsm, hs, hnn, hln, hB⟩ := hI
  have h : RV (Rw 0) (K 6).1 (K 6).2.1 (K 6).2.2.1 ((K 6).2.2.2 0) ((K 6).2.2.2 1) ((K 6).2.2.2 2) ((K 6).2.2.2 3) ((K 6).2.2.2 4) ((K 6).2.2.2 5) ((K 6).2.2.2 6) ((K 6).2.2.2 7) := hk
  have hsm : sm = n := hsm
  subst hsm
  have hs : SR (Rw 2) K sm := hs
  have hnn : T.1 ≤ 60 := hnn
  have hln : ln = T.1 := hln
  have hB : Rw 3 = T.2.2.2.1 := hB
  have hn : sm ≤ 6 := hn
  rcases hp with ⟨rfl, v, ⟨rfl, hc⟩, rfl⟩ | ⟨⟨hc, rfl⟩, rfl⟩
  · have e : sIn y 0 (Rw 0 0 - 1) = true := (has_in h.ro).symm.trans hc
    have hr := (has_ok h.hc hc).2
    repeat rw [if_pos e]
    exact ⟨rfl, fun _ => out9 (ou := ou) (h.walk hr), hI0⟩
  · have e : ¬ sIn y 0 (Rw 0 0 - 1) = true := by rw [← has_in h.ro, hc]; decide
    repeat rw [if_neg e]
    exact ⟨rfl, fun q => absurd q (by decide), hI0⟩
theorem PL_shelfFor {A : Nat → Nat → Nat} {K : Nat → VS} {b : CS} {n : Nat} {T : TS} {th : Int32} {sm ln : Nat} {at_ : Int32} {wl : Bool} {rm : Int32} {q : BS} {ha : Int64} {Rw : Nat → Nat → Int32} {ou : Nat → Int64} {y : Int32} {r_ : Int32} {w9 : HU} (hI : INV (K, b, n, T) (th, sm, ln, at_, wl, rm, q, ha, Rw)) (hp : (r_ = nI 0 ∧ ∃ v9 : Int32, (v9 = cSf ((K 6).2.2.2 0) ((K 6).2.2.2 2) ((K 6).2.2.2 1) y 6 ∧ sIn y 1 30 = true) ∧ w9 = (A, (K, b, n, T), vp_updL ou (nI 0).toNatClampNeg v9.toInt64)) ∨ (((sIn y 1 30 = false ∧ r_ = nI 1)) ∧ w9 = (A, (K, b, n, T), ou))) : r_ = (nI (if sIn y 1 30 = true then 0 else 1)) ∧ (r_ = nI 0 → w9.2.2 0 = ((if sIn y 1 30 = true then sSf (Rw 0) (K 6).1 y 6 else 0)).toInt64) ∧ INV w9.2.1 ((nI (if sIn y 1 30 = true then 0 else 1)), sm, ln, at_, wl, rm, q, ha, Rw) := by
  have hI0 := hI
  obtain ⟨hk, hn, hsm, hs, hnn, hln, hB⟩ := hI
  have h : RV (Rw 0) (K 6).1 (K 6).2.1 (K 6).2.2.1 ((K 6).2.2.2 0) ((K 6).2.2.2 1) ((K 6).2.2.2 2) ((K 6).2.2.2 3) ((K 6).2.2.2 4) ((K 6).2.2.2 5) ((K 6).2.2.2 6) ((K 6).2.2.2 7) := hk
  have hsm : sm = n := hsm
  subst hsm
  have hs : SR (Rw 2) K sm := hs
  have hnn : T.1 ≤ 60 := hnn
  have hln : ln = T.1 := hln
  have hB : Rw 3 = T.2.2.2.1 := hB
  have hn : sm ≤ 6 := hn
  rcases hp with ⟨rfl, v, ⟨rfl, hc⟩, rfl⟩ | ⟨⟨hc, rfl⟩, rfl⟩
  · have e : sIn y 1 30 = true := hc
    repeat rw [if_pos e]
    exact ⟨rfl, fun _ => out9 (ou := ou) (h.sf y 6 (Nat.le_refl _)), hI0⟩
  · have e : ¬ sIn y 1 30 = true := by rw [hc]; decide
    repeat rw [if_neg e]
    exact ⟨rfl, fun q => absurd q (by decide), hI0⟩
theorem PL_append {A : Nat → Nat → Nat} {K : Nat → VS} {b : CS} {n : Nat} {T : TS} {th : Int32} {sm ln : Nat} {at_ : Int32} {wl : Bool} {rm : Int32} {q : BS} {ha : Int64} {Rw : Nat → Nat → Int32} {ou : Nat → Int64} {y : Int32} {r_ : Int32} {w9 : HU} (hI : INV (K, b, n, T) (th, sm, ln, at_, wl, rm, q, ha, Rw)) (hp : (r_ = nI 0 ∧ ∃ v9 : Int32, (v9 = nI (T.1 + 1) ∧ cdApp T.1 y = 0) ∧ w9 = (A, (K, b, n, (T.1 + 1, T.2.1, T.2.2.1, upd T.2.2.2.1 T.1 y, T.2.2.2.2.1, T.2.2.2.2.2.1, T.2.2.2.2.2.2)), vp_updL ou (nI 0).toNatClampNeg v9.toInt64)) ∨ (((cdApp T.1 y = 1 ∧ r_ = nI 1) ∨ (cdApp T.1 y = 2 ∧ r_ = nI 2)) ∧ w9 = (A, (K, b, n, T), ou))) : r_ = (nI (cdApp ln y)) ∧ (r_ = nI 0 → w9.2.2 0 = ((nI (if cdApp ln y = 0 then ln + 1 else 0))).toInt64) ∧ INV w9.2.1 ((nI (cdApp ln y)), sm, if cdApp ln y = 0 then ln + 1 else ln, at_, wl, rm, q, ha, mk5 (Rw 0) (Rw 1) (Rw 2) (if cdApp ln y = 0 then upd (Rw 3) ln y else (Rw 3)) (Rw 4)) := by
  have hI0 := hI
  obtain ⟨hk, hn, hsm, hs, hnn, hln, hB⟩ := hI
  have h : RV (Rw 0) (K 6).1 (K 6).2.1 (K 6).2.2.1 ((K 6).2.2.2 0) ((K 6).2.2.2 1) ((K 6).2.2.2 2) ((K 6).2.2.2 3) ((K 6).2.2.2 4) ((K 6).2.2.2 5) ((K 6).2.2.2 6) ((K 6).2.2.2 7) := hk
  have hsm : sm = n := hsm
  subst hsm
  have hs : SR (Rw 2) K sm := hs
  have hnn : T.1 ≤ 60 := hnn
  have hln : ln = T.1 := hln
  have hB : Rw 3 = T.2.2.2.1 := hB
  have hn : sm ≤ 6 := hn
  rcases hp with ⟨rfl, v, ⟨rfl, hc⟩, rfl⟩ | ⟨⟨hc, rfl⟩ | ⟨hc, rfl⟩, rfl⟩
  · rw [← hln] at hc
    repeat rw [if_pos hc]
    rw [hc]
    refine ⟨rfl, fun _ => out9 (ou := ou) (by rw [hln]), hk, hn, rfl, hs, ?_, ?_, ?_⟩
    · show T.1 + 1 ≤ 60
      have := cdApp_0 hc
      omega
    · show ln + 1 = T.1 + 1
      rw [hln]
    · show upd (Rw 3) ln y = upd T.2.2.2.1 T.1 y
      rw [hln, hB]
  · rw [← hln] at hc
    have ne : ¬ cdApp ln y = 0 := by rw [hc]; decide
    repeat rw [if_neg ne]
    rw [hc]
    exact ⟨rfl, fun q => absurd q (by decide), hI0⟩
  · rw [← hln] at hc
    have ne : ¬ cdApp ln y = 0 := by rw [hc]; decide
    repeat rw [if_neg ne]
    rw [hc]
    exact ⟨rfl, fun q => absurd q (by decide), hI0⟩
theorem PL_run {A : Nat → Nat → Nat} {K : Nat → VS} {b : CS} {n : Nat} {T : TS} {th : Int32} {sm ln : Nat} {at_ : Int32} {wl : Bool} {rm : Int32} {q : BS} {ha : Int64} {Rw : Nat → Nat → Int32} {ou : Nat → Int64} {r_ : Int32} {w9 : HU} {wI : Nat → Nat} {ad : Nat → Nat} (hwI : wI = fun j => ix ((rRd T.2.2.2.1 T.1 (Rw 4)).1 (3 * j)) - 1) (hI : INV (K, b, n, T) (th, sm, ln, at_, wl, rm, q, ha, Rw)) (hp : (r_ = nI 0 ∧ ∃ v9 : Int32, (v9 = nI (cRn ((K 6).2.2.2 0) ((K 6).2.2.2 1) wI (cLp ad T.2.2.2.1 T.1 60 0 ((true, 0), T.2.2.2.2.1, T.2.2.2.2.2.1, T.2.2.2.2.2.2)).1.2.2.1 (cLp ad T.2.2.2.1 T.1 60 0 ((true, 0), T.2.2.2.2.1, T.2.2.2.2.2.1, T.2.2.2.2.2.2)).1.2.2.2 (cLp ad T.2.2.2.1 T.1 60 0 ((true, 0), T.2.2.2.2.1, T.2.2.2.2.2.1, T.2.2.2.2.2.2)).2 0 ((((K 6).2.2.2 2), ((K 6).2.2.2 4), ((K 6).2.2.2 5), ((K 6).2.2.1)), (((K 6).2.2.2 3), ((K 6).2.2.2 6), ((K 6).2.2.2 7)), ((K 6).1), ((K 6).2.1), b)).1 ∧ (cLp ad T.2.2.2.1 T.1 60 0 ((true, 0), T.2.2.2.2.1, T.2.2.2.2.2.1, T.2.2.2.2.2.2)).1.1.1 = true) ∧ w9 = ((svA n A), (setK (svK n K) 6 (((cRn ((K 6).2.2.2 0) ((K 6).2.2.2 1) wI (cLp ad T.2.2.2.1 T.1 60 0 ((true, 0), T.2.2.2.2.1, T.2.2.2.2.2.1, T.2.2.2.2.2.2)).1.2.2.1 (cLp ad T.2.2.2.1 T.1 60 0 ((true, 0), T.2.2.2.2.1, T.2.2.2.2.2.1, T.2.2.2.2.2.2)).1.2.2.2 (cLp ad T.2.2.2.1 T.1 60 0 ((true, 0), T.2.2.2.2.1, T.2.2.2.2.2.1, T.2.2.2.2.2.2)).2 0 ((((K 6).2.2.2 2), ((K 6).2.2.2 4), ((K 6).2.2.2 5), ((K 6).2.2.1)), (((K 6).2.2.2 3), ((K 6).2.2.2 6), ((K 6).2.2.2 7)), ((K 6).1), ((K 6).2.1), b)).2).2.2.1, (((cRn ((K 6).2.2.2 0) ((K 6).2.2.2 1) wI (cLp ad T.2.2.2.1 T.1 60 0 ((true, 0), T.2.2.2.2.1, T.2.2.2.2.2.1, T.2.2.2.2.2.2)).1.2.2.1 (cLp ad T.2.2.2.1 T.1 60 0 ((true, 0), T.2.2.2.2.1, T.2.2.2.2.2.1, T.2.2.2.2.2.2)).1.2.2.2 (cLp ad T.2.2.2.1 T.1 60 0 ((true, 0), T.2.2.2.2.1, T.2.2.2.2.2.1, T.2.2.2.2.2.2)).2 0 ((((K 6).2.2.2 2), ((K 6).2.2.2 4), ((K 6).2.2.2 5), ((K 6).2.2.1)), (((K 6).2.2.2 3), ((K 6).2.2.2 6), ((K 6).2.2.2 7)), ((K 6).1), ((K 6).2.1), b)).2).2.2.2.1), (((cRn ((K 6).2.2.2 0) ((K 6).2.2.2 1) wI (cLp ad T.2.2.2.1 T.1 60 0 ((true, 0), T.2.2.2.2.1, T.2.2.2.2.2.1, T.2.2.2.2.2.2)).1.2.2.1 (cLp ad T.2.2.2.1 T.1 60 0 ((true, 0), T.2.2.2.2.1, T.2.2.2.2.2.1, T.2.2.2.2.2.2)).1.2.2.2 (cLp ad T.2.2.2.1 T.1 60 0 ((true, 0), T.2.2.2.2.1, T.2.2.2.2.2.1, T.2.2.2.2.2.2)).2 0 ((((K 6).2.2.2 2), ((K 6).2.2.2 4), ((K 6).2.2.2 5), ((K 6).2.2.1)), (((K 6).2.2.2 3), ((K 6).2.2.2 6), ((K 6).2.2.2 7)), ((K 6).1), ((K 6).2.1), b)).2).1.2.2.2), mk8 ((K 6).2.2.2 0) ((K 6).2.2.2 1) (((cRn ((K 6).2.2.2 0) ((K 6).2.2.2 1) wI (cLp ad T.2.2.2.1 T.1 60 0 ((true, 0), T.2.2.2.2.1, T.2.2.2.2.2.1, T.2.2.2.2.2.2)).1.2.2.1 (cLp ad T.2.2.2.1 T.1 60 0 ((true, 0), T.2.2.2.2.1, T.2.2.2.2.2.1, T.2.2.2.2.2.2)).1.2.2.2 (cLp ad T.2.2.2.1 T.1 60 0 ((true, 0), T.2.2.2.2.1, T.2.2.2.2.2.1, T.2.2.2.2.2.2)).2 0 ((((K 6).2.2.2 2), ((K 6).2.2.2 4), ((K 6).2.2.2 5), ((K 6).2.2.1)), (((K 6).2.2.2 3), ((K 6).2.2.2 6), ((K 6).2.2.2 7)), ((K 6).1), ((K 6).2.1), b)).2).1.1) (((cRn ((K 6).2.2.2 0) ((K 6).2.2.2 1) wI (cLp ad T.2.2.2.1 T.1 60 0 ((true, 0), T.2.2.2.2.1, T.2.2.2.2.2.1, T.2.2.2.2.2.2)).1.2.2.1 (cLp ad T.2.2.2.1 T.1 60 0 ((true, 0), T.2.2.2.2.1, T.2.2.2.2.2.1, T.2.2.2.2.2.2)).1.2.2.2 (cLp ad T.2.2.2.1 T.1 60 0 ((true, 0), T.2.2.2.2.1, T.2.2.2.2.2.1, T.2.2.2.2.2.2)).2 0 ((((K 6).2.2.2 2), ((K 6).2.2.2 4), ((K 6).2.2.2 5), ((K 6).2.2.1)), (((K 6).2.2.2 3), ((K 6).2.2.2 6), ((K 6).2.2.2 7)), ((K 6).1), ((K 6).2.1), b)).2).2.1.1) (((cRn ((K 6).2.2.2 0) ((K 6).2.2.2 1) wI (cLp ad T.2.2.2.1 T.1 60 0 ((true, 0), T.2.2.2.2.1, T.2.2.2.2.2.1, T.2.2.2.2.2.2)).1.2.2.1 (cLp ad T.2.2.2.1 T.1 60 0 ((true, 0), T.2.2.2.2.1, T.2.2.2.2.2.1, T.2.2.2.2.2.2)).1.2.2.2 (cLp ad T.2.2.2.1 T.1 60 0 ((true, 0), T.2.2.2.2.1, T.2.2.2.2.2.1, T.2.2.2.2.2.2)).2 0 ((((K 6).2.2.2 2), ((K 6).2.2.2 4), ((K 6).2.2.2 5), ((K 6).2.2.1)), (((K 6).2.2.2 3), ((K 6).2.2.2 6), ((K 6).2.2.2 7)), ((K 6).1), ((K 6).2.1), b)).2).1.2.1) (((cRn ((K 6).2.2.2 0) ((K 6).2.2.2 1) wI (cLp ad T.2.2.2.1 T.1 60 0 ((true, 0), T.2.2.2.2.1, T.2.2.2.2.2.1, T.2.2.2.2.2.2)).1.2.2.1 (cLp ad T.2.2.2.1 T.1 60 0 ((true, 0), T.2.2.2.2.1, T.2.2.2.2.2.1, T.2.2.2.2.2.2)).1.2.2.2 (cLp ad T.2.2.2.1 T.1 60 0 ((true, 0), T.2.2.2.2.1, T.2.2.2.2.2.1, T.2.2.2.2.2.2)).2 0 ((((K 6).2.2.2 2), ((K 6).2.2.2 4), ((K 6).2.2.2 5), ((K 6).2.2.1)), (((K 6).2.2.2 3), ((K 6).2.2.2 6), ((K 6).2.2.2 7)), ((K 6).1), ((K 6).2.1), b)).2).1.2.2.1) (((cRn ((K 6).2.2.2 0) ((K 6).2.2.2 1) wI (cLp ad T.2.2.2.1 T.1 60 0 ((true, 0), T.2.2.2.2.1, T.2.2.2.2.2.1, T.2.2.2.2.2.2)).1.2.2.1 (cLp ad T.2.2.2.1 T.1 60 0 ((true, 0), T.2.2.2.2.1, T.2.2.2.2.2.1, T.2.2.2.2.2.2)).1.2.2.2 (cLp ad T.2.2.2.1 T.1 60 0 ((true, 0), T.2.2.2.2.1, T.2.2.2.2.2.1, T.2.2.2.2.2.2)).2 0 ((((K 6).2.2.2 2), ((K 6).2.2.2 4), ((K 6).2.2.2 5), ((K 6).2.2.1)), (((K 6).2.2.2 3), ((K 6).2.2.2 6), ((K 6).2.2.2 7)), ((K 6).1), ((K 6).2.1), b)).2).2.1.2.1) (((cRn ((K 6).2.2.2 0) ((K 6).2.2.2 1) wI (cLp ad T.2.2.2.1 T.1 60 0 ((true, 0), T.2.2.2.2.1, T.2.2.2.2.2.1, T.2.2.2.2.2.2)).1.2.2.1 (cLp ad T.2.2.2.1 T.1 60 0 ((true, 0), T.2.2.2.2.1, T.2.2.2.2.2.1, T.2.2.2.2.2.2)).1.2.2.2 (cLp ad T.2.2.2.1 T.1 60 0 ((true, 0), T.2.2.2.2.1, T.2.2.2.2.2.1, T.2.2.2.2.2.2)).2 0 ((((K 6).2.2.2 2), ((K 6).2.2.2 4), ((K 6).2.2.2 5), ((K 6).2.2.1)), (((K 6).2.2.2 3), ((K 6).2.2.2 6), ((K 6).2.2.2 7)), ((K 6).1), ((K 6).2.1), b)).2).2.1.2.2)), ((((cRn ((K 6).2.2.2 0) ((K 6).2.2.2 1) wI (cLp ad T.2.2.2.1 T.1 60 0 ((true, 0), T.2.2.2.2.1, T.2.2.2.2.2.1, T.2.2.2.2.2.2)).1.2.2.1 (cLp ad T.2.2.2.1 T.1 60 0 ((true, 0), T.2.2.2.2.1, T.2.2.2.2.2.1, T.2.2.2.2.2.2)).1.2.2.2 (cLp ad T.2.2.2.1 T.1 60 0 ((true, 0), T.2.2.2.2.1, T.2.2.2.2.2.1, T.2.2.2.2.2.2)).2 0 ((((K 6).2.2.2 2), ((K 6).2.2.2 4), ((K 6).2.2.2 5), ((K 6).2.2.1)), (((K 6).2.2.2 3), ((K 6).2.2.2 6), ((K 6).2.2.2 7)), ((K 6).1), ((K 6).2.1), b)).2.2.2.2.2).1), (((cRn ((K 6).2.2.2 0) ((K 6).2.2.2 1) wI (cLp ad T.2.2.2.1 T.1 60 0 ((true, 0), T.2.2.2.2.1, T.2.2.2.2.2.1, T.2.2.2.2.2.2)).1.2.2.1 (cLp ad T.2.2.2.1 T.1 60 0 ((true, 0), T.2.2.2.2.1, T.2.2.2.2.2.1, T.2.2.2.2.2.2)).1.2.2.2 (cLp ad T.2.2.2.1 T.1 60 0 ((true, 0), T.2.2.2.2.1, T.2.2.2.2.2.1, T.2.2.2.2.2.2)).2 0 ((((K 6).2.2.2 2), ((K 6).2.2.2 4), ((K 6).2.2.2 5), ((K 6).2.2.1)), (((K 6).2.2.2 3), ((K 6).2.2.2 6), ((K 6).2.2.2 7)), ((K 6).1), ((K 6).2.1), b)).2.2.2.2.2).2.1), (((cRn ((K 6).2.2.2 0) ((K 6).2.2.2 1) wI (cLp ad T.2.2.2.1 T.1 60 0 ((true, 0), T.2.2.2.2.1, T.2.2.2.2.2.1, T.2.2.2.2.2.2)).1.2.2.1 (cLp ad T.2.2.2.1 T.1 60 0 ((true, 0), T.2.2.2.2.1, T.2.2.2.2.2.1, T.2.2.2.2.2.2)).1.2.2.2 (cLp ad T.2.2.2.1 T.1 60 0 ((true, 0), T.2.2.2.2.1, T.2.2.2.2.2.1, T.2.2.2.2.2.2)).2 0 ((((K 6).2.2.2 2), ((K 6).2.2.2 4), ((K 6).2.2.2 5), ((K 6).2.2.1)), (((K 6).2.2.2 3), ((K 6).2.2.2 6), ((K 6).2.2.2 7)), ((K 6).1), ((K 6).2.1), b)).2.2.2.2.2).2.2.1), (((cRn ((K 6).2.2.2 0) ((K 6).2.2.2 1) wI (cLp ad T.2.2.2.1 T.1 60 0 ((true, 0), T.2.2.2.2.1, T.2.2.2.2.2.1, T.2.2.2.2.2.2)).1.2.2.1 (cLp ad T.2.2.2.1 T.1 60 0 ((true, 0), T.2.2.2.2.1, T.2.2.2.2.2.1, T.2.2.2.2.2.2)).1.2.2.2 (cLp ad T.2.2.2.1 T.1 60 0 ((true, 0), T.2.2.2.2.1, T.2.2.2.2.2.1, T.2.2.2.2.2.2)).2 0 ((((K 6).2.2.2 2), ((K 6).2.2.2 4), ((K 6).2.2.2 5), ((K 6).2.2.1)), (((K 6).2.2.2 3), ((K 6).2.2.2 6), ((K 6).2.2.2 7)), ((K 6).1), ((K 6).2.1), b)).2.2.2.2.2).2.2.2)), svN n, (0, (nI ((cLp ad T.2.2.2.1 T.1 60 0 ((true, 0), T.2.2.2.2.1, T.2.2.2.2.2.1, T.2.2.2.2.2.2)).2)), (nI ((cLp ad T.2.2.2.1 T.1 60 0 ((true, 0), T.2.2.2.2.1, T.2.2.2.2.2.1, T.2.2.2.2.2.2)).1.1.2)), T.2.2.2.1, (cLp ad T.2.2.2.1 T.1 60 0 ((true, 0), T.2.2.2.2.1, T.2.2.2.2.2.1, T.2.2.2.2.2.2)).1.2.1, (cLp ad T.2.2.2.1 T.1 60 0 ((true, 0), T.2.2.2.2.1, T.2.2.2.2.2.1, T.2.2.2.2.2.2)).1.2.2.1, (cLp ad T.2.2.2.1 T.1 60 0 ((true, 0), T.2.2.2.2.1, T.2.2.2.2.2.1, T.2.2.2.2.2.2)).1.2.2.2)), vp_updL ou (nI 0).toNatClampNeg v9.toInt64)) ∨ ((((cLp ad T.2.2.2.1 T.1 60 0 ((true, 0), T.2.2.2.2.1, T.2.2.2.2.2.1, T.2.2.2.2.2.2)).1.1.1 = false ∧ r_ = nI 1)) ∧ w9 = (A, (K, b, n, (T.1, (nI ((cLp ad T.2.2.2.1 T.1 60 0 ((true, 0), T.2.2.2.2.1, T.2.2.2.2.2.1, T.2.2.2.2.2.2)).2)), (nI ((cLp ad T.2.2.2.1 T.1 60 0 ((true, 0), T.2.2.2.2.1, T.2.2.2.2.2.1, T.2.2.2.2.2.2)).1.1.2)), T.2.2.2.1, (cLp ad T.2.2.2.1 T.1 60 0 ((true, 0), T.2.2.2.2.1, T.2.2.2.2.2.1, T.2.2.2.2.2.2)).1.2.1, (cLp ad T.2.2.2.1 T.1 60 0 ((true, 0), T.2.2.2.2.1, T.2.2.2.2.2.1, T.2.2.2.2.2.2)).1.2.2.1, (cLp ad T.2.2.2.1 T.1 60 0 ((true, 0), T.2.2.2.2.1, T.2.2.2.2.2.1, T.2.2.2.2.2.2)).1.2.2.2)), ou))) : r_ = (nI (if (rRd (Rw 3) ln (Rw 4)).2.1.1 = true then 0 else 1)) ∧ (r_ = nI 0 → w9.2.2 0 = ((nI (if (rRd (Rw 3) ln (Rw 4)).2.1.1 = true then (rGo (rRd (Rw 3) ln (Rw 4)).1 (rRd (Rw 3) ln (Rw 4)).2.2 0 ((Rw 0), (K 6).1, q)).1 else 0))).toInt64) ∧ INV w9.2.1 ((nI (if (rRd (Rw 3) ln (Rw 4)).2.1.1 = true then 0 else 1)), if (rRd (Rw 3) ln (Rw 4)).2.1.1 = true then svN sm else sm, if (rRd (Rw 3) ln (Rw 4)).2.1.1 = true then 0 else ln, (nI ((rRd (Rw 3) ln (Rw 4)).2.1.2)), (rRd (Rw 3) ln (Rw 4)).2.1.1, (nI ((rRd (Rw 3) ln (Rw 4)).2.2)), ((if (rRd (Rw 3) ln (Rw 4)).2.1.1 = true then (rGo (rRd (Rw 3) ln (Rw 4)).1 (rRd (Rw 3) ln (Rw 4)).2.2 0 ((Rw 0), (K 6).1, q)).2.2.2.1 else q.1), (if (rRd (Rw 3) ln (Rw 4)).2.1.1 = true then (rGo (rRd (Rw 3) ln (Rw 4)).1 (rRd (Rw 3) ln (Rw 4)).2.2 0 ((Rw 0), (K 6).1, q)).2.2.2.2.1 else q.2.1), (if (rRd (Rw 3) ln (Rw 4)).2.1.1 = true then (rGo (rRd (Rw 3) ln (Rw 4)).1 (rRd (Rw 3) ln (Rw 4)).2.2 0 ((Rw 0), (K 6).1, q)).2.2.2.2.2.1 else q.2.2.1), if (rRd (Rw 3) ln (Rw 4)).2.1.1 = true then (rGo (rRd (Rw 3) ln (Rw 4)).1 (rRd (Rw 3) ln (Rw 4)).2.2 0 ((Rw 0), (K 6).1, q)).2.2.2.2.2.2 else q.2.2.2), ha, mk5 (if (rRd (Rw 3) ln (Rw 4)).2.1.1 = true then (rGo (rRd (Rw 3) ln (Rw 4)).1 (rRd (Rw 3) ln (Rw 4)).2.2 0 ((Rw 0), (K 6).1, q)).2.1 else (Rw 0)) (Rw 1) (if (rRd (Rw 3) ln (Rw 4)).2.1.1 = true then svV (Rw 0) (Rw 2) sm else (Rw 2)) (Rw 3) ((rRd (Rw 3) ln (Rw 4)).1)) := by
  have hI0 := hI
  obtain ⟨hk, hn, hsm, hs, hnn, hln, hB⟩ := hI
  have h : RV (Rw 0) (K 6).1 (K 6).2.1 (K 6).2.2.1 ((K 6).2.2.2 0) ((K 6).2.2.2 1) ((K 6).2.2.2 2) ((K 6).2.2.2 3) ((K 6).2.2.2 4) ((K 6).2.2.2 5) ((K 6).2.2.2 6) ((K 6).2.2.2 7) := hk
  have hsm : sm = n := hsm
  subst hsm
  have hs : SR (Rw 2) K sm := hs
  have hnn : T.1 ≤ 60 := hnn
  have hln : ln = T.1 := hln
  have hB : Rw 3 = T.2.2.2.1 := hB
  have hn : sm ≤ 6 := hn
  have hl6 : T.1 ≤ 60 := hnn
  subst hln
  have hd := rd_eq (ad := ad) (B := T.2.2.2.1) (n := T.1) hnn T.2.2.2.2.1 T.2.2.2.2.2.1 T.2.2.2.2.2.2 (Rw 4)
  have hB3 : Rw 3 = T.2.2.2.1 := hB
  rw [hB3]
  rcases hp with ⟨rfl, v, ⟨rfl, hc⟩, rfl⟩ | ⟨⟨hc, rfl⟩, rfl⟩
  · have e : (rRd T.2.2.2.1 T.1 (Rw 4)).2.1.1 = true := hd.1.symm.trans hc
    have hz := hd.2.2.1 e
    have hT : RVT ((K 6).2.2.2 0) ((K 6).2.2.2 1) ((((K 6).2.2.2 2), ((K 6).2.2.2 4), ((K 6).2.2.2 5), ((K 6).2.2.1)), (((K 6).2.2.2 3), ((K 6).2.2.2 6), ((K 6).2.2.2 7)), ((K 6).1), ((K 6).2.1), (b.1, b.2.1, b.2.2.1, b.2.2.2)) (Rw 0, (K 6).1, q) := ⟨rfl, h⟩
    have hgo := rn_eq (ad := ad) (R' := (rRd T.2.2.2.1 T.1 (Rw 4)).1) (z := (cLp ad T.2.2.2.1 T.1 60 0 ((true, 0), T.2.2.2.2.1, T.2.2.2.2.2.1, T.2.2.2.2.2.2)).1.2) (rRd T.2.2.2.1 T.1 (Rw 4)).2.2 0 _ _ (fun j _ hj => hz.2.2 j (by omega)) hT
    rw [← hwI] at hgo
    repeat rw [if_pos e]
    rw [hz.2.1]
    refine ⟨rfl, fun _ => out9 (ou := ou) (congrArg nI hgo.1), hgo.2.2, svN_le hn, rfl, (SR.save hn hs hk).set6 (svN_le hn) (Nat.le_refl _) (Nat.le_refl _), Nat.zero_le _, rfl, rfl⟩
  · have e : ¬ (rRd T.2.2.2.1 T.1 (Rw 4)).2.1.1 = true := by rw [← hd.1, hc]; decide
    repeat rw [if_neg e]
    exact ⟨rfl, fun q => absurd q (by decide), hk, hn, rfl, hs, hnn, rfl, rfl⟩
theorem PL_undo {A : Nat → Nat → Nat} {K : Nat → VS} {b : CS} {n : Nat} {T : TS} {th : Int32} {sm ln : Nat} {at_ : Int32} {wl : Bool} {rm : Int32} {q : BS} {ha : Int64} {Rw : Nat → Nat → Int32} {ou : Nat → Int64} {r_ : Int32} {w9 : HU} (hI : INV (K, b, n, T) (th, sm, ln, at_, wl, rm, q, ha, Rw)) (hp : (r_ = nI 0 ∧ ∃ v9 : Int32, (v9 = nI (n - 1) ∧ 1 ≤ n) ∧ w9 = (A, (setK K 6 (cpV (K (n - 1)) (K 6)), b, n - 1, T), vp_updL ou (nI 0).toNatClampNeg v9.toInt64)) ∨ (((n = 0 ∧ r_ = nI 1)) ∧ w9 = (A, (K, b, n, T), ou))) : r_ = (nI (if sm = 0 then 1 else 0)) ∧ (r_ = nI 0 → w9.2.2 0 = ((nI (sm - 1))).toInt64) ∧ INV w9.2.1 ((nI (if sm = 0 then 1 else 0)), sm - 1, ln, at_, wl, rm, q, ha, mk5 (if sm = 0 then (Rw 0) else fGet (Rw 2) (Rw 0) (96 * (sm - 1)) 96) (Rw 1) (Rw 2) (Rw 3) (Rw 4)) := by
  have hI0 := hI
  obtain ⟨hk, hn, hsm, hs, hnn, hln, hB⟩ := hI
  have h : RV (Rw 0) (K 6).1 (K 6).2.1 (K 6).2.2.1 ((K 6).2.2.2 0) ((K 6).2.2.2 1) ((K 6).2.2.2 2) ((K 6).2.2.2 3) ((K 6).2.2.2 4) ((K 6).2.2.2 5) ((K 6).2.2.2 6) ((K 6).2.2.2 7) := hk
  have hsm : sm = n := hsm
  subst hsm
  have hs : SR (Rw 2) K sm := hs
  have hnn : T.1 ≤ 60 := hnn
  have hln : ln = T.1 := hln
  have hB : Rw 3 = T.2.2.2.1 := hB
  have hn : sm ≤ 6 := hn
  rcases hp with ⟨rfl, v, ⟨rfl, hc⟩, rfl⟩ | ⟨⟨hc, rfl⟩, rfl⟩
  · have ne : ¬ sm = 0 := by omega
    repeat rw [if_neg ne]
    exact ⟨rfl, fun _ => out9 (ou := ou) rfl, SR.undo hc hs, by show sm - 1 ≤ 6; omega, rfl, hs.set6 hn (Nat.le_refl _) (Nat.sub_le _ _), hnn, hln, hB⟩
  · have ne : sm = 0 := hc
    repeat rw [if_pos ne]
    refine ⟨rfl, fun q => absurd q (by decide), hk, hn, ?_, hs, hnn, hln, hB⟩
    show sm - 1 = sm
    omega
