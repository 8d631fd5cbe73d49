section LAWSTART
variable {s : State} {args : Array Value}
set_option maxRecDepth 100000 in
theorem cn_start (hts : ∀ w ∈ lw_tbl, w.before args s = true) : cnW s := ⟨va_AO.of (hts _ (by decide +kernel)), va_AO.of (hts _ (by decide +kernel)), va_Nw.of rfl (hts _ (by decide +kernel)), va_Nw.of rfl (hts _ (by decide +kernel))⟩
set_option maxRecDepth 100000 in
theorem arr_i {ty : FieldType} (hv : ∀ (U : State) (cA : ClassId), U.vm.findClass ("[" ++ ty.toString) = some cA → va_RA U cA ty) (h : (Cond.arrayClass ty).before args s = true) : ∃ cA, ArrOfT s cA ty ∧ va_RA s cA ty := by
  obtain ⟨cA, kA, comp, h1, h2, h3⟩ := Cond.arrayClass_spec (args := args) (first := s) (o := none) (s := s) (idx := []) h
  exact ⟨cA, fun n z => ⟨fun k h => (by cases h), kA, h2, comp, h3⟩, hv s cA h1⟩
set_option maxRecDepth 100000 in
theorem arr_o {C : String} (h : (Cond.arrayOver (.object C)).before args s = true) : ∃ cA, ArrOfT s cA (.object C) ∧ va_RA s cA (.object C) := by
  obtain ⟨comp, cA, kA, h1, -, h3, h4, h5⟩ := Cond.arrayOver_spec (args := args) (first := s) (o := none) (s := s) (idx := []) h
  exact ⟨cA, fun n z => ⟨fun k h => (by cases h), kA, h3, comp, h4⟩, kA, comp, h3, h4, h1, h5⟩
set_option maxRecDepth 100000 in
theorem kn_start (hts : ∀ w ∈ lw_tbl, w.before args s = true) : ∃ (dC : Nat → ClassId) (dI : Nat → Nat → Nat) (cI cV cW : ClassId), va_K (dC, dI) vwCl (tyS cI cV cW) s := by
  obtain ⟨c0, i0, k0⟩ := u_known (C := RX1) (T := TX1) (N := 7) (n := 7) hts wsX10_lw (hts (.instantiable RX1 7) (by decide +kernel))
  obtain ⟨c1, i1, k1⟩ := u_known (C := RX2) (T := TX2) (N := 4) (n := 4) hts wsX20_lw (hts (.instantiable RX2 4) (by decide +kernel))
  obtain ⟨c2, i2, k2⟩ := u_known (C := RX3) (T := TX3) (N := 11) (n := 11) hts wsX30_lw (hts (.instantiable RX3 11) (by decide +kernel))
  obtain ⟨c3, i3, k3⟩ := u_known (C := RX5) (T := TX5) (N := 6) (n := 6) hts wsX50_lw (hts (.instantiable RX5 6) (by decide +kernel))
  obtain ⟨cI, aI, rI⟩ := arr_i (ty := .int) (fun U cA h => h) (hts _ (by decide +kernel))
  obtain ⟨cV, aV, rV⟩ := arr_o (C := "VaultShelves$Vault") (hts _ (by decide +kernel))
  obtain ⟨cW, aW, rW⟩ := arr_o (C := "VaultShelves$Word") (hts _ (by decide +kernel))
  refine ⟨fun k => if k = 0 then c0 else if k = 1 then c1 else if k = 2 then c2 else c3, fun k => if k = 0 then i0 else if k = 1 then i1 else if k = 2 then i2 else i3, cI, cV, cW, fun k q hq => ?_, fun k q hq => ?_⟩
  · match k, hq with
    | 0, hq => cases hq; exact k0
    | 1, hq => cases hq; exact k1
    | 2, hq => cases hq; exact k2
    | 3, hq => cases hq; exact k3
    | k + 4, hq => simp [vwCl] at hq
  · match k, hq with
    | 0, hq => cases hq; exact ⟨aI, rI⟩
    | 1, hq => cases hq; exact ⟨aV, rV⟩
    | 2, hq => cases hq; exact ⟨aW, rW⟩
    | k + 3, hq => simp [tyS] at hq
end LAWSTART
section LAWBEGIN
/-- the world of VaultShelves behind its constructor -/
def W5 (cI cV cW : ClassId) (v : Nat) (u5 : Nat → Nat) : va_W := [(v, .inr (3, [.ref (u5 0), .ref (u5 9), .ref (u5 18), .ref (u5 19), .ref (u5 24), .int (nI 0)])), ((u5 0), .inr (2, [.ref (u5 1), .ref (u5 2), .ref (u5 3), .ref (u5 4), .ref (u5 5), .ref (u5 6), .ref (u5 7), .ref (u5 8), .int (nI 0), .int 0, .int 0])), ((u5 1), .inl (cI, 6, .inl (vRm 6))), ((u5 2), .inl (cI, 6, .inl (vQm 6))), ((u5 3), .inl (cI, 6, .inl z0)), ((u5 4), .inl (cI, 16, .inl z0)), ((u5 5), .inl (cI, 16, .inl z0)), ((u5 6), .inl (cI, 16, .inl z0)), ((u5 7), .inl (cI, 16, .inl z0)), ((u5 8), .inl (cI, 16, .inl z0)), ((u5 9), .inr (2, [.ref (u5 10), .ref (u5 11), .ref (u5 12), .ref (u5 13), .ref (u5 14), .ref (u5 15), .ref (u5 16), .ref (u5 17), .int (nI 0), .int 0, .int 0])), ((u5 10), .inl (cI, 6, .inl (vRm 6))), ((u5 11), .inl (cI, 6, .inl (vQm 6))), ((u5 12), .inl (cI, 6, .inl z0)), ((u5 13), .inl (cI, 16, .inl z0)), ((u5 14), .inl (cI, 16, .inl z0)), ((u5 15), .inl (cI, 16, .inl z0)), ((u5 16), .inl (cI, 16, .inl z0)), ((u5 17), .inl (cI, 16, .inl z0)), ((u5 18), .inr (1, [.int 0, .int 0, .int 0, .int 0])), ((u5 19), .inr (0, [.ref (u5 20), .ref (u5 21), .ref (u5 22), .ref (u5 23), .int (nI 0), .int (nI 0), .int (nI 0)])), ((u5 20), .inl (cI, 60, .inl z0)), ((u5 21), .inl (cW, 60, .inr (.inr (.inr (.inr no0))))), ((u5 22), .inl (cI, 60, .inl z0)), ((u5 23), .inl (cI, 60, .inl z0)), ((u5 24), .inl (cV, 6, .inr (.inr (.inr (.inr (va_6 (u5 25) (u5 34) (u5 43) (u5 52) (u5 61) (u5 70))))))), ((u5 25), .inr (2, [.ref (u5 26), .ref (u5 27), .ref (u5 28), .ref (u5 29), .ref (u5 30), .ref (u5 31), .ref (u5 32), .ref (u5 33), .int (nI 0), .int 0, .int 0])), ((u5 26), .inl (cI, 6, .inl (vRm 6))), ((u5 27), .inl (cI, 6, .inl (vQm 6))), ((u5 28), .inl (cI, 6, .inl z0)), ((u5 29), .inl (cI, 16, .inl z0)), ((u5 30), .inl (cI, 16, .inl z0)), ((u5 31), .inl (cI, 16, .inl z0)), ((u5 32), .inl (cI, 16, .inl z0)), ((u5 33), .inl (cI, 16, .inl z0)), ((u5 34), .inr (2, [.ref (u5 35), .ref (u5 36), .ref (u5 37), .ref (u5 38), .ref (u5 39), .ref (u5 40), .ref (u5 41), .ref (u5 42), .int (nI 0), .int 0, .int 0])), ((u5 35), .inl (cI, 6, .inl (vRm 6))), ((u5 36), .inl (cI, 6, .inl (vQm 6))), ((u5 37), .inl (cI, 6, .inl z0)), ((u5 38), .inl (cI, 16, .inl z0)), ((u5 39), .inl (cI, 16, .inl z0)), ((u5 40), .inl (cI, 16, .inl z0)), ((u5 41), .inl (cI, 16, .inl z0)), ((u5 42), .inl (cI, 16, .inl z0)), ((u5 43), .inr (2, [.ref (u5 44), .ref (u5 45), .ref (u5 46), .ref (u5 47), .ref (u5 48), .ref (u5 49), .ref (u5 50), .ref (u5 51), .int (nI 0), .int 0, .int 0])), ((u5 44), .inl (cI, 6, .inl (vRm 6))), ((u5 45), .inl (cI, 6, .inl (vQm 6))), ((u5 46), .inl (cI, 6, .inl z0)), ((u5 47), .inl (cI, 16, .inl z0)), ((u5 48), .inl (cI, 16, .inl z0)), ((u5 49), .inl (cI, 16, .inl z0)), ((u5 50), .inl (cI, 16, .inl z0)), ((u5 51), .inl (cI, 16, .inl z0)), ((u5 52), .inr (2, [.ref (u5 53), .ref (u5 54), .ref (u5 55), .ref (u5 56), .ref (u5 57), .ref (u5 58), .ref (u5 59), .ref (u5 60), .int (nI 0), .int 0, .int 0])), ((u5 53), .inl (cI, 6, .inl (vRm 6))), ((u5 54), .inl (cI, 6, .inl (vQm 6))), ((u5 55), .inl (cI, 6, .inl z0)), ((u5 56), .inl (cI, 16, .inl z0)), ((u5 57), .inl (cI, 16, .inl z0)), ((u5 58), .inl (cI, 16, .inl z0)), ((u5 59), .inl (cI, 16, .inl z0)), ((u5 60), .inl (cI, 16, .inl z0)), ((u5 61), .inr (2, [.ref (u5 62), .ref (u5 63), .ref (u5 64), .ref (u5 65), .ref (u5 66), .ref (u5 67), .ref (u5 68), .ref (u5 69), .int (nI 0), .int 0, .int 0])), ((u5 62), .inl (cI, 6, .inl (vRm 6))), ((u5 63), .inl (cI, 6, .inl (vQm 6))), ((u5 64), .inl (cI, 6, .inl z0)), ((u5 65), .inl (cI, 16, .inl z0)), ((u5 66), .inl (cI, 16, .inl z0)), ((u5 67), .inl (cI, 16, .inl z0)), ((u5 68), .inl (cI, 16, .inl z0)), ((u5 69), .inl (cI, 16, .inl z0)), ((u5 70), .inr (2, [.ref (u5 71), .ref (u5 72), .ref (u5 73), .ref (u5 74), .ref (u5 75), .ref (u5 76), .ref (u5 77), .ref (u5 78), .int (nI 0), .int 0, .int 0])), ((u5 71), .inl (cI, 6, .inl (vRm 6))), ((u5 72), .inl (cI, 6, .inl (vQm 6))), ((u5 73), .inl (cI, 6, .inl z0)), ((u5 74), .inl (cI, 16, .inl z0)), ((u5 75), .inl (cI, 16, .inl z0)), ((u5 76), .inl (cI, 16, .inl z0)), ((u5 77), .inl (cI, 16, .inl z0)), ((u5 78), .inl (cI, 16, .inl z0))]
def aF (v q : Nat) (u5 : Nat → Nat) : Nat → Nat
  | 0 => v
  | 1 => u5 18
  | 2 => u5 19
  | 3 => u5 20
  | 4 => u5 21
  | 5 => u5 22
  | 6 => u5 23
  | 7 => u5 24
  | _ => q
def AF (u5 : Nat → Nat) : Nat → Nat → Nat
  | 6, k => u5 k
  | 7, k => u5 (9 + k)
  | j, k => u5 (25 + 9 * j + k)
def V0 : VS := (0, 0, 0, mk8 (vRm 6) (vQm 6) z0 z0 z0 z0 z0 z0)
def X0 : XS := (fun _ => V0, (0, 0, 0, 0), 0, z0)
theorem INV0 : INV 0 V0 := ⟨⟨Nat.zero_le _, fun r h => absurd h (Nat.not_lt_zero r)⟩, fun r h => absurd h (Nat.not_lt_zero r), by decide +kernel, by decide⟩
theorem GI0 : GI 0 X0 := ⟨Nat.zero_le _, INV0, fun j h => absurd h (Nat.not_lt_zero j)⟩
set_option maxRecDepth 100000 in
theorem LW0 {cI cV cW : ClassId} {v q : Nat} {u5 : Nat → Nat} : W5 cI cV cW v u5 ++ [(q, .inl (cI, 32, .inl z0))] = LW cI cV cW (aF v q u5) (AF u5) X0 := rfl
end LAWBEGIN
