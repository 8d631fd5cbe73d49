section PURE4
variable {S : Nat → Int32} {cn : Nat} {wk sc : Int32} {R Q F Wd P Hm N O : Nat → Int32}
theorem gQ_hi {a : Nat} {v : Int32} (h : 15 ≤ a) {k : Nat} (hk : k < 6) : gQ (upd S a v) k = gQ S k := pk_un (by omega)
theorem gR_hi {a : Nat} {v : Int32} (h : 15 ≤ a ∨ a < 3) {k : Nat} (hk : k < 6) : gR (upd S a v) k = gR S k := pk_un (by omega)
theorem gQ_l3 {a : Nat} {v : Int32} (h : 15 ≤ a ∨ a < 3) {k : Nat} (hk : k < 6) : gQ (upd S a v) k = gQ S k := pk_un (by omega)
/-- the places of the records change, and what is filled with them -/
theorem RV.setP (h : RV S cn wk sc R Q F Wd P Hm N O) {r : Nat} {v : Int32} (hr : r < cn) (hv : Ok6 v) :
    RV (upd S (15 + 5 * r + 1) v) cn wk sc R Q (fun k => F k + ((if v = nI k then gW S 0 r else 0) - (if gW S 1 r = nI k then gW S 0 r else 0))) Wd (upd P r v) Hm N O := by
  have g0 : gW (upd S (15 + 5 * r + 1) v) 0 = gW S 0 := gW_other (by omega) (by omega) (by omega)
  have g1 : gW (upd S (15 + 5 * r + 1) v) 1 = upd (gW S 1) r v := gW_same
  have g2 : gW (upd S (15 + 5 * r + 1) v) 2 = gW S 2 := gW_other (by omega) (by omega) (by omega)
  have g3 : gW (upd S (15 + 5 * r + 1) v) 3 = gW S 3 := gW_other (by omega) (by omega) (by omega)
  have g4 : gW (upd S (15 + 5 * r + 1) v) 4 = gW S 4 := gW_other (by omega) (by omega) (by omega)
  refine ⟨?_, h.hc, ?_, ?_, fun i hi => ?_, fun i hi => ?_, fun k hk => ?_, ?_, fun i hi => ?_, ?_, ?_, ?_, fun i hi => ?_, ?_, fun i hi => ?_, fun i hi => ?_, ?_⟩
  · rw [pk_un (by omega)]; exact h.s0
  · rw [pk_un (by omega)]; exact h.s1
  · rw [pk_un (by omega)]; exact h.s2
  · rw [gR_hi (by omega) hi]; exact h.hR i hi
  · rw [gQ_hi (by omega) hi]; exact h.hQ i hi
  · rw [g0, g1, sTk_upd, if_pos hr, ← h.hF k hk]
  · rw [g0]; exact h.hW
  · rw [g1]
    by_cases e : i = r
    · subst e; rw [pk_us, pk_us]
    · rw [pk_un e, pk_un e]; exact h.hP i hi
  · rw [g2]; exact h.hH
  · rw [g3]; exact h.hN
  · rw [g4]; exact h.hO
  · rw [g1, g2]
    by_cases e : i = r
    · subst e; rw [pk_us]; exact ⟨hv, (h.ok i hi).2⟩
    · rw [pk_un e]; exact h.ok i hi
  · rw [g0]; exact h.bW
  · rw [gR_hi (by omega) hi]; exact h.bR i hi
  · rw [gQ_hi (by omega) hi]; exact h.bQ i hi
  · rw [g3, g4]; exact h.z
/-- one of the homes, the new calls, the old calls -/
theorem RV.setH (h : RV S cn wk sc R Q F Wd P Hm N O) {r : Nat} {v : Int32} (hr : r < cn) (hv : Ok6 v) :
    RV (upd S (15 + 5 * r + 2) v) cn wk sc R Q F Wd P (upd Hm r v) N O := by
  have g0 : gW (upd S (15 + 5 * r + 2) v) 0 = gW S 0 := gW_other (by omega) (by omega) (by omega)
  have g1 : gW (upd S (15 + 5 * r + 2) v) 1 = gW S 1 := gW_other (by omega) (by omega) (by omega)
  have g2 : gW (upd S (15 + 5 * r + 2) v) 2 = upd (gW S 2) r v := gW_same
  have g3 : gW (upd S (15 + 5 * r + 2) v) 3 = gW S 3 := gW_other (by omega) (by omega) (by omega)
  have g4 : gW (upd S (15 + 5 * r + 2) v) 4 = gW S 4 := gW_other (by omega) (by omega) (by omega)
  refine ⟨?_, h.hc, ?_, ?_, fun i hi => ?_, fun i hi => ?_, ?_, ?_, ?_, fun i hi => ?_, ?_, ?_, fun i hi => ?_, ?_, fun i hi => ?_, fun i hi => ?_, ?_⟩
  · rw [pk_un (by omega)]; exact h.s0
  · rw [pk_un (by omega)]; exact h.s1
  · rw [pk_un (by omega)]; exact h.s2
  · rw [gR_hi (by omega) hi]; exact h.hR i hi
  · rw [gQ_hi (by omega) hi]; exact h.hQ i hi
  · rw [g0, g1]; exact h.hF
  · rw [g0]; exact h.hW
  · rw [g1]; exact h.hP
  · rw [g2]
    by_cases e : i = r
    · subst e; rw [pk_us, pk_us]
    · rw [pk_un e, pk_un e]; exact h.hH i hi
  · rw [g3]; exact h.hN
  · rw [g4]; exact h.hO
  · rw [g1, g2]
    by_cases e : i = r
    · subst e; rw [pk_us]; exact ⟨(h.ok i hi).1, hv⟩
    · rw [pk_un e]; exact h.ok i hi
  · rw [g0]; exact h.bW
  · rw [gR_hi (by omega) hi]; exact h.bR i hi
  · rw [gQ_hi (by omega) hi]; exact h.bQ i hi
  · rw [g3, g4]; exact h.z
theorem RV.setN (h : RV S cn wk sc R Q F Wd P Hm N O) {r : Nat} {v : Int32} (hr : r < cn) :
    RV (upd S (15 + 5 * r + 3) v) cn wk sc R Q F Wd P Hm (upd N r v) O := by
  have g0 : gW (upd S (15 + 5 * r + 3) v) 0 = gW S 0 := gW_other (by omega) (by omega) (by omega)
  have g1 : gW (upd S (15 + 5 * r + 3) v) 1 = gW S 1 := gW_other (by omega) (by omega) (by omega)
  have g2 : gW (upd S (15 + 5 * r + 3) v) 2 = gW S 2 := gW_other (by omega) (by omega) (by omega)
  have g3 : gW (upd S (15 + 5 * r + 3) v) 3 = upd (gW S 3) r v := gW_same
  have g4 : gW (upd S (15 + 5 * r + 3) v) 4 = gW S 4 := gW_other (by omega) (by omega) (by omega)
  refine ⟨?_, h.hc, ?_, ?_, fun i hi => ?_, fun i hi => ?_, ?_, ?_, ?_, ?_, fun i hi => ?_, ?_, ?_, ?_, fun i hi => ?_, fun i hi => ?_, fun i h1 h2 => ?_⟩
  · rw [pk_un (by omega)]; exact h.s0
  · rw [pk_un (by omega)]; exact h.s1
  · rw [pk_un (by omega)]; exact h.s2
  · rw [gR_hi (by omega) hi]; exact h.hR i hi
  · rw [gQ_hi (by omega) hi]; exact h.hQ i hi
  · rw [g0, g1]; exact h.hF
  · rw [g0]; exact h.hW
  · rw [g1]; exact h.hP
  · rw [g2]; exact h.hH
  · rw [g3]
    by_cases e : i = r
    · subst e; rw [pk_us, pk_us]
    · rw [pk_un e, pk_un e]; exact h.hN i hi
  · rw [g4]; exact h.hO
  · rw [g1, g2]; exact h.ok
  · rw [g0]; exact h.bW
  · rw [gR_hi (by omega) hi]; exact h.bR i hi
  · rw [gQ_hi (by omega) hi]; exact h.bQ i hi
  · rw [g3, g4, pk_un (by omega)]; exact h.z i h1 h2
theorem RV.setO (h : RV S cn wk sc R Q F Wd P Hm N O) {r : Nat} {v : Int32} (hr : r < cn) :
    RV (upd S (15 + 5 * r + 4) v) cn wk sc R Q F Wd P Hm N (upd O r v) := by
  have g0 : gW (upd S (15 + 5 * r + 4) v) 0 = gW S 0 := gW_other (by omega) (by omega) (by omega)
  have g1 : gW (upd S (15 + 5 * r + 4) v) 1 = gW S 1 := gW_other (by omega) (by omega) (by omega)
  have g2 : gW (upd S (15 + 5 * r + 4) v) 2 = gW S 2 := gW_other (by omega) (by omega) (by omega)
  have g3 : gW (upd S (15 + 5 * r + 4) v) 3 = gW S 3 := gW_other (by omega) (by omega) (by omega)
  have g4 : gW (upd S (15 + 5 * r + 4) v) 4 = upd (gW S 4) r v := gW_same
  refine ⟨?_, h.hc, ?_, ?_, fun i hi => ?_, fun i hi => ?_, ?_, ?_, ?_, ?_, ?_, fun i hi => ?_, ?_, ?_, fun i hi => ?_, fun i hi => ?_, fun i h1 h2 => ?_⟩
  · rw [pk_un (by omega)]; exact h.s0
  · rw [pk_un (by omega)]; exact h.s1
  · rw [pk_un (by omega)]; exact h.s2
  · rw [gR_hi (by omega) hi]; exact h.hR i hi
  · rw [gQ_hi (by omega) hi]; exact h.hQ i hi
  · rw [g0, g1]; exact h.hF
  · rw [g0]; exact h.hW
  · rw [g1]; exact h.hP
  · rw [g2]; exact h.hH
  · rw [g3]; exact h.hN
  · rw [g4]
    by_cases e : i = r
    · subst e; rw [pk_us, pk_us]
    · rw [pk_un e, pk_un e]; exact h.hO i hi
  · rw [g1, g2]; exact h.ok
  · rw [g0]; exact h.bW
  · rw [gR_hi (by omega) hi]; exact h.bR i hi
  · rw [gQ_hi (by omega) hi]; exact h.bQ i hi
  · rw [g3, g4, pk_un (by omega)]; exact h.z i h1 h2
theorem RV.setWk (h : RV S cn wk sc R Q F Wd P Hm N O) {v : Int32} : RV (upd S 1 v) cn v sc R Q F Wd P Hm N O := by
  have g : ∀ j, gW (upd S 1 v) j = gW S j := fun j => gW_low (by omega)
  refine ⟨?_, h.hc, pk_us, ?_, fun i hi => ?_, fun i hi => ?_, ?_, ?_, ?_, ?_, ?_, ?_, ?_, ?_, fun i hi => ?_, fun i hi => ?_, ?_⟩
  · rw [pk_un (by omega)]; exact h.s0
  · rw [pk_un (by omega)]; exact h.s2
  · rw [gR_hi (by omega) hi]; exact h.hR i hi
  · rw [gQ_l3 (by omega) hi]; exact h.hQ i hi
  · rw [g, g]; exact h.hF
  · rw [g]; exact h.hW
  · rw [g]; exact h.hP
  · rw [g]; exact h.hH
  · rw [g]; exact h.hN
  · rw [g]; exact h.hO
  · rw [g, g]; exact h.ok
  · rw [g]; exact h.bW
  · rw [gR_hi (by omega) hi]; exact h.bR i hi
  · rw [gQ_l3 (by omega) hi]; exact h.bQ i hi
  · rw [g, g]; exact h.z
theorem RV.setSc (h : RV S cn wk sc R Q F Wd P Hm N O) {v : Int32} : RV (upd S 2 v) cn wk v R Q F Wd P Hm N O := by
  have g : ∀ j, gW (upd S 2 v) j = gW S j := fun j => gW_low (by omega)
  refine ⟨?_, h.hc, ?_, pk_us, fun i hi => ?_, fun i hi => ?_, ?_, ?_, ?_, ?_, ?_, ?_, ?_, ?_, fun i hi => ?_, fun i hi => ?_, ?_⟩
  · rw [pk_un (by omega)]; exact h.s0
  · rw [pk_un (by omega)]; exact h.s1
  · rw [gR_hi (by omega) hi]; exact h.hR i hi
  · rw [gQ_l3 (by omega) hi]; exact h.hQ i hi
  · rw [g, g]; exact h.hF
  · rw [g]; exact h.hW
  · rw [g]; exact h.hP
  · rw [g]; exact h.hH
  · rw [g]; exact h.hN
  · rw [g]; exact h.hO
  · rw [g, g]; exact h.ok
  · rw [g]; exact h.bW
  · rw [gR_hi (by omega) hi]; exact h.bR i hi
  · rw [gQ_l3 (by omega) hi]; exact h.bQ i hi
  · rw [g, g]; exact h.z
end PURE4
